set_option maxHeartbeats 4000000 in
set_option maxRecDepth 20000 in
/-- then(other) -/
theorem c_X8_then (G : aG) {h : aH} {nx w v n : Nat} {l s : List Nat} (hW : WayAt h w l) (hV : WayAt h v s) (hc : cOk n l) (hs : cOk n s) (hn : n ≤ 16) (hw : w + 3 ≤ nx) (hv : v + 3 ≤ nx) : aMet G mX8_then 2 3 34 [.ref (w), .ref (v)] h nx (pQ (fun r h1 n1 => r = some (.ref nx) ∧ n1 = nx + 3 ∧ WayAt h1 nx (fol l s) ∧ aOff h h1 nx 3)) := by
  have e1 := hc.1
  have e2 := hs.1
  have hW0 := hW
  refine aMet_of rfl (Nat.le_of_ble_eq_true rfl) ?_
  show aw G mX8_then [] (aRoom 2 3 34) (aEnd G (pQ (fun r h1 n1 => r = some (.ref nx) ∧ n1 = nx + 3 ∧ WayAt h1 nx (fol l s) ∧ aOff h h1 nx 3)) 3 34) 0 0 h nx 0 [(0, .ref (w)), (1, .ref (v))] []
  obtain ⟨y_1f, y_1g, y_11, y_12, y_13, y_1v⟩ := hW0
  refine aw_aload_n dX8_then_0 rfl ?_
  refine aw_get 0 y_11 rfl rfl (by decide) w_885 rfl dX8_then_1 ?_
  refine aw_lenI y_12 dX8_then_4 ?_
  refine aw_istore_n (L' := [(2, .int (nI (l.length))), (0, .ref (w)), (1, .ref (v))]) dX8_then_5 (by decide) rfl ?_
  refine aw_newV (ci := 7) (fs := [.null, .null]) rfl w_901 w_880 w_24 (by decide +kernel) (Nat.le_of_ble_eq_true rfl) (Nat.le_of_ble_eq_true rfl) dX8_then_6 (fun h_1 f_1 o_1 => ?_)
  refine aw_dup dX8_then_9 rfl ?_
  refine aw_iload_n dX8_then_10 rfl ?_
  refine aw_callIQ (As := [.int (nI (l.length))]) (rest := [.ref (nx)]) (c_X8_init G f_1 (show l.length ≤ 16 by omega)) kX8_init w_902 rfl rfl (Nat.le_of_ble_eq_true rfl) dX8_then_11 ⟨Nat.le_of_ble_eq_true rfl, Nat.le_of_ble_eq_true rfl⟩ ⟨Nat.le_of_ble_eq_true rfl, Nat.le_of_ble_eq_true rfl⟩ (fun v_1 h_2 n_1 q_1 z_1 => ?_)
  obtain ⟨rfl, rfl, X_1, o_2⟩ := q_1
  refine aw_nx (show _ = nx + 3 from rfl) ?_
  refine aw_astore_n (L' := [(3, .ref (nx)), (2, .int (nI (l.length))), (0, .ref (w)), (1, .ref (v))]) dX8_then_14 (by decide) rfl ?_
  refine aw_ic dX8_then_15 ic_0 ?_
  refine aw_istore (L' := [(4, .int (nI (0))), (3, .ref (nx)), (2, .int (nI (l.length))), (0, .ref (w)), (1, .ref (v))]) dX8_then_16 (by decide) rfl ?_
  obtain ⟨f0, g0, k1, k2, k3, -⟩ := X_1
  rw [idL_len] at k2 k3
  have K : ∀ (d : Nat) (i : Nat) (h1 : aH), l.length - i < d → (i ≤ l.length) → (h1 nx = some (.inr (7, [.ref (nx + 1), .ref (nx + 2)]))) → (∃ f g : Nat → Int32, h1 (nx + 1) = some (.inl (0, l.length, .inl f)) ∧ h1 (nx + 2) = some (.inl (1, l.length, .inl g)) ∧ ∀ k, k < i → f k = nI ((fol l s).getD k 0 / 2) ∧ g k = bI (decide ((fol l s).getD k 0 % 2 = 1))) → (aOff h h1 nx 3) → aw G mX8_then [] (aRoom 2 3 34) (aEnd G (pQ (fun r h1 n1 => r = some (.ref nx) ∧ n1 = nx + 3 ∧ WayAt h1 nx (fol l s) ∧ aOff h h1 nx 3)) 3 34) 3 34 h1 (nx + 3) 18 [(0, .ref (w)), (1, .ref (v)), (2, .int (nI (l.length))), (3, .ref (nx)), (4, .int (nI (i)))] [] := by
    intro d
    induction d with
    | zero => intro i h1 hMd; exact absurd hMd (Nat.not_lt_zero _)
    | succ d ih =>
      intro i h1 hMd hi q1 qq ho
      obtain ⟨f, g, q2, q3, q4⟩ := qq
      have hWk := hW.keep (h1 := h1) (fun a g1 g2 => ho a (by omega))
      have hVk := hV.keep (h1 := h1) (fun a g1 g2 => ho a (by omega))
      obtain ⟨y_2f, y_2g, y_21, y_22, y_23, y_2v⟩ := hWk
      obtain ⟨y_3f, y_3g, y_31, y_32, y_33, y_3v⟩ := hVk
      refine aw_iload dX8_then_18 rfl ?_
      refine aw_iload_n dX8_then_20 rfl ?_
      refine aw_icmp_geN (tgt := 83) (by omega) (by omega) dX8_then_21 (by decide) (fun c1 => ?_) (fun c1 => ?_)
      · skip
        have e9 : i = l.length := by omega
        refine aw_aload_n dX8_then_83 rfl ?_
        exact aw_areturn dX8_then_84 rfl (Or.inl ⟨_, rfl⟩) (Or.inr ⟨_, rfl⟩) ⟨_, rfl, rfl, rfl, ⟨f, g, q1, by rw [fol_len, e2, ← e1]; exact q2, by rw [fol_len, e2, ← e1]; exact q3, fun k hk => q4 k (by rw [fol_len] at hk; omega)⟩, ho⟩ (Nat.le_of_ble_eq_true rfl) (Nat.le_of_ble_eq_true rfl)
      · skip
        have c1s : i < s.length := by omega
        have hsi := hs.2 i c1s
        have hlj := hc.lt hsi
        refine aw_aload_n dX8_then_24 rfl ?_
        refine aw_get 0 q1 rfl rfl (by decide) w_885 rfl dX8_then_25 ?_
        refine aw_iload dX8_then_28 rfl ?_
        refine aw_aload_n dX8_then_30 rfl ?_
        refine aw_get 0 y_21 rfl rfl (by decide) w_885 rfl dX8_then_31 ?_
        refine aw_aload_n dX8_then_34 rfl ?_
        refine aw_get 0 y_31 rfl rfl (by decide) w_885 rfl dX8_then_35 ?_
        refine aw_iload dX8_then_38 rfl ?_
        refine aw_iaload y_32 (by omega) (by omega) dX8_then_40 ?_
        refine aw_top (show (y_3f i) = (nI (s.getD i 0 / 2)) from (y_3v i c1s).1) ?_
        refine aw_iaload y_22 (by omega) (by omega) dX8_then_41 ?_
        refine aw_top (show (y_2f (s.getD i 0 / 2)) = (nI (l.getD (s.getD i 0 / 2) 0 / 2)) from (y_2v _ (by omega)).1) ?_
        refine aw_iastoreV q2 (by omega) (by omega) dX8_then_42 (fun h_3 f_2 o_3 => ?_)
        have f_3 := (o_3 w (by omega)).trans y_21
        have f_4 := (o_3 (w + 1) (by omega)).trans y_22
        have f_5 := (o_3 (w + 2) (by omega)).trans y_23
        have f_6 := (o_3 v (by omega)).trans y_31
        have f_7 := (o_3 (v + 1) (by omega)).trans y_32
        have f_8 := (o_3 (v + 2) (by omega)).trans y_33
        have f_9 := (o_3 nx (by omega)).trans q1
        have f_10 := (o_3 (nx + 2) (by omega)).trans q3
        refine aw_aload_n dX8_then_43 rfl ?_
        refine aw_get 1 f_9 rfl rfl (by decide) w_888 rfl dX8_then_44 ?_
        refine aw_iload dX8_then_47 rfl ?_
        refine aw_aload_n dX8_then_49 rfl ?_
        refine aw_get 1 f_3 rfl rfl (by decide) w_888 rfl dX8_then_50 ?_
        refine aw_aload_n dX8_then_53 rfl ?_
        refine aw_get 0 f_6 rfl rfl (by decide) w_885 rfl dX8_then_54 ?_
        refine aw_iload dX8_then_57 rfl ?_
        refine aw_iaload f_7 (by omega) (by omega) dX8_then_59 ?_
        refine aw_top (show (y_3f i) = (nI (s.getD i 0 / 2)) from (y_3v i c1s).1) ?_
        refine aw_zaload f_5 (by omega) (by omega) dX8_then_60 ?_
        refine aw_top (show (y_2g (s.getD i 0 / 2)) = (bI (decide (l.getD (s.getD i 0 / 2) 0 % 2 = 1))) from (y_2v _ (by omega)).2) ?_
        refine aw_aload_n dX8_then_61 rfl ?_
        refine aw_get 1 f_6 rfl rfl (by decide) w_888 rfl dX8_then_62 ?_
        refine aw_iload dX8_then_65 rfl ?_
        refine aw_zaload f_8 (by omega) (by omega) dX8_then_67 ?_
        refine aw_top (show (y_3g i) = (bI (decide (s.getD i 0 % 2 = 1))) from (y_3v i c1s).2) ?_
        have hbt : ∀ z : Bool, z.toNat < 2 := by decide
        have hb1 := hbt (decide (l.getD (s.getD i 0 / 2) 0 % 2 = 1))
        have hb2 := hbt (decide (s.getD i 0 % 2 = 1))
        have hb : ∀ z1 z2 : Bool, z1.toNat = z2.toNat ↔ z1 = z2 := by decide
        have hu := fol_u (l := l) c1s
        have hh := fol_h (l := l) c1s
        have J : aw G mX8_then [] (aRoom 2 3 34) (aEnd G (pQ (fun r h1 n1 => r = some (.ref nx) ∧ n1 = nx + 3 ∧ WayAt h1 nx (fol l s) ∧ aOff h h1 nx 3)) 3 34) 3 34 h_3 (nx + 3) 76 [(0, .ref (w)), (1, .ref (v)), (2, .int (nI (l.length))), (3, .ref (nx)), (4, .int (nI (i)))] [.int (bI (decide ((fol l s).getD i 0 % 2 = 1))), .int (nI i), .ref (nx + 2)] := by
          refine aw_zastoreV f_10 (by omega) (by omega) (bI_nar _) dX8_then_76 (fun h_4 f_11 o_4 => ?_)
          have f_12 := (o_4 (nx + 1) (by omega)).trans f_2
          have f_13 := (o_4 w (by omega)).trans f_3
          have f_14 := (o_4 (w + 1) (by omega)).trans f_4
          have f_15 := (o_4 (w + 2) (by omega)).trans f_5
          have f_16 := (o_4 v (by omega)).trans f_6
          have f_17 := (o_4 (v + 1) (by omega)).trans f_7
          have f_18 := (o_4 (v + 2) (by omega)).trans f_8
          have f_19 := (o_4 nx (by omega)).trans f_9
          refine aw_iincN (k := 1) (L' := [(4, .int (nI (i + 1))), (0, .ref (w)), (1, .ref (v)), (2, .int (nI (l.length))), (3, .ref (nx))]) dX8_then_77 (by decide) rfl (by decide) rfl ?_
          refine aw_goto (tgt := 18) dX8_then_80 (by decide) ?_
          refine aw_sub (L' := [(0, .ref (w)), (1, .ref (v)), (2, .int (nI (l.length))), (3, .ref (nx)), (4, .int (nI (i + 1)))]) [1, 2, 3, 4, 0] rfl ?_
          refine ih (i + 1) h_4 (by omega) (by omega) f_19 ⟨_, _, f_12, f_11, fun k hk => ?_⟩ (fun a ha => (((o_4 a (by omega)).trans (o_3 a (by omega)))).trans (ho a ha))
          unfold upd
          by_cases z : k = i
          · rw [if_pos z, if_pos z, z, hh]; exact ⟨rfl, rfl⟩
          · rw [if_neg z, if_neg z]; exact q4 k (by omega)
        refine aw_icmp_eqN (tgt := 75) (by omega) (by omega) dX8_then_68 (by decide) (fun c2 => ?_) (fun c2 => ?_)
        · skip
          have c3 := (hb _ _).mp c2
          refine aw_ic dX8_then_75 ic_0 ?_
          rw [hu, c3, bne_self_eq_false] at J
          exact J
        · skip
          have c3 : ¬ decide (l.getD (s.getD i 0 / 2) 0 % 2 = 1) = decide (s.getD i 0 % 2 = 1) := fun z => c2 ((hb _ _).mpr z)
          refine aw_ic dX8_then_71 ic_1 ?_
          refine aw_goto (tgt := 76) dX8_then_72 (by decide) ?_
          rw [hu, bne_iff_ne.mpr c3] at J
          exact J
  refine aw_sub (L' := [(0, .ref (w)), (1, .ref (v)), (2, .int (nI (l.length))), (3, .ref (nx)), (4, .int (nI (0)))]) [3, 4, 2, 1, 0] rfl ?_
  exact K (l.length + 1) 0 h_2 (by omega) (Nat.zero_le _) k1 ⟨f0, g0, k2, k3, fun k hk => absurd hk (Nat.not_lt_zero _)⟩ (fun a ha => (o_2 a (by omega)).trans (o_1 a (by omega)))
