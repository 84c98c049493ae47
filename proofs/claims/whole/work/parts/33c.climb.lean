set_option maxHeartbeats 4000000 in
set_option maxRecDepth 20000 in
/-- climb() -/
theorem c_X7_climb (G : aG) {h : aH} {nx dk a b n sc : Nat} {l : List Nat} (hC : CardsAt h dk a b l sc) (hc : cOk n l) (hn : n ≤ 16) (hb : dk < nx ∧ a < nx ∧ b < nx) (ha : cAll n l)  : aMet G mX7_climb 1 1 16 [.ref (dk)] h nx (pN (.int (nI (riseL l n))) h nx) := by
  have hC0 := hC
  have hln := hc.1
  refine aMet_of rfl (Nat.le_of_ble_eq_true rfl) ?_
  show aw G mX7_climb [] (aRoom 1 1 16) (aEnd G (pN (.int (nI (riseL l n))) h nx) 1 16) 0 0 h nx 0 [(0, .ref (dk))] []
  obtain ⟨y_1f, y_1g, y_11, y_12, y_13, y_1v⟩ := hC
  refine aw_aload_n dX7_climb_0 rfl ?_
  refine aw_callVR (As := []) (rest := []) (c_X7_size G hC0 hc hn) kX7_size w_911 y_11 rfl rfl rfl rfl (Nat.le_of_ble_eq_true rfl) dX7_climb_1 ⟨Nat.le_of_ble_eq_true rfl, Nat.le_of_ble_eq_true rfl⟩ ⟨Nat.le_of_ble_eq_true rfl, Nat.le_of_ble_eq_true rfl⟩ ?_
  refine aw_newarrIV (by omega) w_56 (Nat.le_of_ble_eq_true rfl) (show 0 + l.length ≤ 16 by omega) dX7_climb_4 (fun h_1 f_1 o_1 => ?_)
  have f_2 := (o_1 dk (by omega)).trans y_11
  have f_3 := (o_1 a (by omega)).trans y_12
  have f_4 := (o_1 b (by omega)).trans y_13
  refine aw_astore_n (L' := [(1, .ref (nx)), (0, .ref (dk))]) dX7_climb_6 (by decide) rfl ?_
  refine aw_ic dX7_climb_7 ic_0 ?_
  refine aw_istore_n (L' := [(2, .int (nI (0))), (1, .ref (nx)), (0, .ref (dk))]) dX7_climb_8 (by decide) rfl ?_
  refine aw_ic dX7_climb_9 ic_0 ?_
  refine aw_istore_n (L' := [(3, .int (nI (0))), (2, .int (nI (0))), (1, .ref (nx)), (0, .ref (dk))]) dX7_climb_10 (by decide) rfl ?_
  refine aw_widen (cells' := 1) (slots' := 16) (by omega) (by omega) ?_
  have hC1 := hC0.keep (o_1 dk (by omega)) (o_1 a (by omega)) (o_1 b (by omega))
  have K : ∀ (d : Nat) (c i : Nat) (h1 : aH), l.length - i < d → (i ≤ l.length) → (c = ones (rsF l i) 16) → (∃ f : Nat → Int32, h1 nx = some (.inl (0, l.length, .inl f)) ∧ ∀ k, k < i → f k = nI (1 + ones (rsF l k) (l.getD k 0 / 2))) → (∀ b, b < nx → h1 b = h b) → aw G mX7_climb [] (aRoom 1 1 16) (aEnd G (pN (.int (nI (riseL l n))) h nx) 1 16) 1 16 h1 (nx + 1) 11 [(0, .ref (dk)), (1, .ref (nx)), (2, .int (nI (c))), (3, .int (nI (i)))] [] := by
    intro d
    induction d with
    | zero => intro c i h1 hMd; exact absurd hMd (Nat.not_lt_zero _)
    | succ d ih =>
      intro c i h1 hMd hi hq hf ho
      obtain ⟨f, hf1, hf2⟩ := hf
      have hCk := hC0.keep (ho dk (by omega)) (ho a (by omega)) (ho b (by omega))
      have hCk0 := hCk
      obtain ⟨y_2f, y_2g, y_21, y_22, y_23, y_2v⟩ := hCk
      have hb16 : ∀ m k : Nat, ones m k ≤ k := fun m k => ct_le _ k
      have hbb := hb16 (rsF l i) 16
      refine aw_iload_n dX7_climb_11 rfl ?_
      refine aw_aload_n dX7_climb_12 rfl ?_
      refine aw_callVR (As := []) (rest := [.int (nI (i))]) (c_X7_size G hCk0 hc hn) kX7_size w_911 y_21 rfl rfl rfl rfl (Nat.le_of_ble_eq_true rfl) dX7_climb_13 ⟨Nat.le_of_ble_eq_true rfl, Nat.le_of_ble_eq_true rfl⟩ ⟨Nat.le_of_ble_eq_true rfl, Nat.le_of_ble_eq_true rfl⟩ ?_
      refine aw_icmp_geN (tgt := 83) (by omega) (by omega) dX7_climb_16 (by decide) (fun c1 => ?_) (fun c1 => ?_)
      · skip
        refine aw_iload_n dX7_climb_83 rfl ?_
        exact aw_ireturn dX7_climb_84 rfl ⟨_, rfl, by rw [hq, show i = n by omega]; rfl, by omega, ho⟩ (Nat.le_of_ble_eq_true rfl) (Nat.le_of_ble_eq_true rfl)
      · skip
        have hci := hc.2 i c1
        refine aw_aload_n dX7_climb_19 rfl ?_
        refine aw_iload_n dX7_climb_20 rfl ?_
        refine aw_ic dX7_climb_21 ic_1 ?_
        have ihO := ih
        refine aw_iastoreV hf1 (by omega) (by omega) dX7_climb_22 (fun h_2 f_5 o_2 => ?_)
        have f_6 := (o_2 dk (by omega)).trans y_21
        have f_7 := (o_2 a (by omega)).trans y_22
        have f_8 := (o_2 b (by omega)).trans y_23
        refine aw_ic dX7_climb_23 ic_0 ?_
        refine aw_istore (L' := [(4, .int (nI (0))), (0, .ref (dk)), (1, .ref (nx)), (2, .int (nI (c))), (3, .int (nI (i)))]) dX7_climb_24 (by decide) rfl ?_
        have K2 : ∀ (d : Nat) (j : Nat) (h1 : aH), i - j < d → (j ≤ i) → (∃ f : Nat → Int32, h1 nx = some (.inl (0, l.length, .inl f)) ∧ (∀ k, k < i → f k = nI (1 + ones (rsF l k) (l.getD k 0 / 2))) ∧ f i = nI (1 + mxv l (l.getD i 0 / 2) j)) → (∀ b, b < nx → h1 b = h b) → aw G mX7_climb [] (aRoom 1 1 16) (aEnd G (pN (.int (nI (riseL l n))) h nx) 1 16) 1 16 h1 (nx + 1) 26 [(0, .ref (dk)), (1, .ref (nx)), (2, .int (nI (c))), (3, .int (nI (i))), (4, .int (nI (j)))] [] := by
          intro d
          induction d with
          | zero => intro j h1 hMd; exact absurd hMd (Nat.not_lt_zero _)
          | succ d ih =>
            intro j h1 hMd hj hf ho
            obtain ⟨f, hf1, hf2, hf3⟩ := hf
            have hCk := hC0.keep (ho dk (by omega)) (ho a (by omega)) (ho b (by omega))
            obtain ⟨y_3f, y_3g, y_31, y_32, y_33, y_3v⟩ := hCk
            have hmx : ∀ j, j ≤ i → mxv l (l.getD i 0 / 2) j ≤ 16 := fun j hj => by rw [rise_at hc ha hn j (by omega) _ (by omega)]; exact Nat.le_trans (hb16 _ _) (by omega)
            have hmj := hmx j hj
            refine aw_iload dX7_climb_26 rfl ?_
            refine aw_iload_n dX7_climb_28 rfl ?_
            refine aw_icmp_geN (tgt := 69) (by omega) (by omega) dX7_climb_29 (by decide) (fun c2 => ?_) (fun c2 => ?_)
            · skip
              have ej : j = i := by omega
              rw [ej, rise_at hc ha hn i (by omega) _ (by omega)] at hf3
              have hbi := hb16 (rsF l i) (l.getD i 0 / 2)
              refine aw_iload_n dX7_climb_69 rfl ?_
              refine aw_aload_n dX7_climb_70 rfl ?_
              refine aw_iload_n dX7_climb_71 rfl ?_
              refine aw_iaload hf1 (by omega) (by omega) dX7_climb_72 ?_
              refine aw_top (show (f i) = (nI (1 + ones (rsF l i) (l.getD i 0 / 2))) from hf3) ?_
              refine aw_max w_1043 w_315 w_16 w_316 (Nat.le_of_ble_eq_true rfl) (Nat.le_of_ble_eq_true rfl) (Nat.le_of_ble_eq_true rfl) (Nat.le_of_ble_eq_true rfl) dX7_climb_73 ?_
              refine aw_top (show (if (nI (c)) < (nI (1 + ones (rsF l i) (l.getD i 0 / 2))) then (nI (1 + ones (rsF l i) (l.getD i 0 / 2))) else (nI (c))) = (nI (max c (1 + ones (rsF l i) (l.getD i 0 / 2)))) from by rw [n_max _ _ (by omega) (by omega)]) ?_
              refine aw_istore_n (L' := [(2, .int (nI (max c (1 + ones (rsF l i) (l.getD i 0 / 2))))), (0, .ref (dk)), (1, .ref (nx)), (3, .int (nI (i))), (4, .int (nI (j)))]) dX7_climb_76 (by decide) rfl ?_
              refine aw_iincN (k := 1) (L' := [(3, .int (nI (i + 1))), (2, .int (nI (max c (1 + ones (rsF l i) (l.getD i 0 / 2))))), (0, .ref (dk)), (1, .ref (nx)), (4, .int (nI (j)))]) dX7_climb_77 (by decide) rfl (by decide) rfl ?_
              refine aw_goto (tgt := 11) dX7_climb_80 (by decide) ?_
              refine aw_sub (L' := [(0, .ref (dk)), (1, .ref (nx)), (2, .int (nI (max c (1 + ones (rsF l i) (l.getD i 0 / 2))))), (3, .int (nI (i + 1)))]) [2, 3, 1, 0] rfl ?_
              exact ihO _ (i + 1) h1 (by omega) (by omega) (by have := rise_at hc ha hn (i + 1) (by omega) 16 (Nat.le_refl _); rw [← this]; show _ = (if l.getD i 0 / 2 < 16 then max (mxv l 16 i) (1 + ones (rsF l i) (l.getD i 0 / 2)) else mxv l 16 i); rw [if_pos (by omega), rise_at hc ha hn i (by omega) 16 (Nat.le_refl _), hq]) ⟨f, hf1, le_s hf2 hf3⟩ ho
            · skip
              have hcj := hc.2 j (by omega)
              refine aw_aload_n dX7_climb_32 rfl ?_
              refine aw_get 0 y_31 rfl rfl (by decide) w_773 rfl dX7_climb_33 ?_
              refine aw_iload dX7_climb_36 rfl ?_
              refine aw_iaload y_32 (by omega) (by omega) dX7_climb_38 ?_
              refine aw_top (show (y_3f j) = (nI (l.getD j 0 / 2)) from (y_3v j (by omega)).1) ?_
              refine aw_aload_n dX7_climb_39 rfl ?_
              refine aw_get 0 y_31 rfl rfl (by decide) w_773 rfl dX7_climb_40 ?_
              refine aw_iload_n dX7_climb_43 rfl ?_
              refine aw_iaload y_32 (by omega) (by omega) dX7_climb_44 ?_
              refine aw_top (show (y_3f i) = (nI (l.getD i 0 / 2)) from (y_3v i (by omega)).1) ?_
              refine aw_icmp_geN (tgt := 63) (by omega) (by omega) dX7_climb_45 (by decide) (fun c3 => ?_) (fun c3 => ?_)
              · skip
                refine aw_iincN (k := 1) (L' := [(4, .int (nI (j + 1))), (0, .ref (dk)), (1, .ref (nx)), (2, .int (nI (c))), (3, .int (nI (i)))]) dX7_climb_63 (by decide) rfl (by decide) rfl ?_
                refine aw_goto (tgt := 26) dX7_climb_66 (by decide) ?_
                refine aw_sub (L' := [(0, .ref (dk)), (1, .ref (nx)), (2, .int (nI (c))), (3, .int (nI (i))), (4, .int (nI (j + 1)))]) [1, 2, 3, 4, 0] rfl ?_
                exact ih (j + 1) h1 (by omega) (by omega) ⟨f, hf1, hf2, by rw [hf3]; show _ = nI (1 + (if l.getD j 0 / 2 < l.getD i 0 / 2 then max (mxv l (l.getD i 0 / 2) j) (1 + ones (rsF l j) (l.getD j 0 / 2)) else mxv l (l.getD i 0 / 2) j)); rw [if_neg (by omega)]⟩ ho
              · skip
                have hbj := hb16 (rsF l j) (l.getD j 0 / 2)
                refine aw_aload_n dX7_climb_48 rfl ?_
                refine aw_iload_n dX7_climb_49 rfl ?_
                refine aw_aload_n dX7_climb_50 rfl ?_
                refine aw_iload_n dX7_climb_51 rfl ?_
                refine aw_iaload hf1 (by omega) (by omega) dX7_climb_52 ?_
                refine aw_top (show (f i) = (nI (1 + mxv l (l.getD i 0 / 2) j)) from hf3) ?_
                refine aw_aload_n dX7_climb_53 rfl ?_
                refine aw_iload dX7_climb_54 rfl ?_
                refine aw_iaload hf1 (by omega) (by omega) dX7_climb_56 ?_
                refine aw_top (show (f j) = (nI (1 + ones (rsF l j) (l.getD j 0 / 2))) from hf2 j (by omega)) ?_
                refine aw_ic dX7_climb_57 ic_1 ?_
                refine aw_iaddN dX7_climb_58 ?_
                refine aw_max w_1043 w_315 w_16 w_316 (Nat.le_of_ble_eq_true rfl) (Nat.le_of_ble_eq_true rfl) (Nat.le_of_ble_eq_true rfl) (Nat.le_of_ble_eq_true rfl) dX7_climb_59 ?_
                refine aw_top (show (if (nI (1 + mxv l (l.getD i 0 / 2) j)) < (nI ((1 + ones (rsF l j) (l.getD j 0 / 2)) + 1)) then (nI ((1 + ones (rsF l j) (l.getD j 0 / 2)) + 1)) else (nI (1 + mxv l (l.getD i 0 / 2) j))) = (nI (max (1 + mxv l (l.getD i 0 / 2) j) (1 + ones (rsF l j) (l.getD j 0 / 2) + 1))) from by rw [n_max _ _ (by omega) (by omega)]) ?_
                refine aw_iastoreV hf1 (by omega) (by omega) dX7_climb_62 (fun h_3 f_9 o_3 => ?_)
                have f_10 := (o_3 dk (by omega)).trans y_31
                have f_11 := (o_3 a (by omega)).trans y_32
                have f_12 := (o_3 b (by omega)).trans y_33
                refine aw_iincN (k := 1) (L' := [(4, .int (nI (j + 1))), (0, .ref (dk)), (1, .ref (nx)), (2, .int (nI (c))), (3, .int (nI (i)))]) dX7_climb_63 (by decide) rfl (by decide) rfl ?_
                refine aw_goto (tgt := 26) dX7_climb_66 (by decide) ?_
                refine aw_sub (L' := [(0, .ref (dk)), (1, .ref (nx)), (2, .int (nI (c))), (3, .int (nI (i))), (4, .int (nI (j + 1)))]) [1, 2, 3, 4, 0] rfl ?_
                exact ih (j + 1) h_3 (by omega) (by omega) ⟨_, f_9, fun k hk => (by unfold upd; rw [if_neg (by omega)]; exact hf2 k hk), by unfold upd; rw [if_pos rfl]; show _ = nI (1 + (if l.getD j 0 / 2 < l.getD i 0 / 2 then max (mxv l (l.getD i 0 / 2) j) (1 + ones (rsF l j) (l.getD j 0 / 2)) else mxv l (l.getD i 0 / 2) j)); rw [if_pos (by omega)]; congr 1; omega⟩ (fun b hb => (o_3 b (by omega)).trans (ho b hb))
        refine aw_sub (L' := [(0, .ref (dk)), (1, .ref (nx)), (2, .int (nI (c))), (3, .int (nI (i))), (4, .int (nI (0)))]) [1, 2, 3, 4, 0] rfl ?_
        exact K2 (i + 1) 0 h_2 (by omega) (Nat.zero_le _) ⟨_, f_5, fun k hk => (by unfold upd; rw [if_neg (by omega)]; exact hf2 k hk), by unfold upd; rw [if_pos rfl]; rfl⟩ (fun b hb => (o_2 b (by omega)).trans (ho b hb))
  refine aw_sub (L' := [(0, .ref (dk)), (1, .ref (nx)), (2, .int (nI (0))), (3, .int (nI (0)))]) [3, 2, 1, 0] rfl ?_
  exact K (l.length + 1) 0 0 h_1 (by omega) (Nat.zero_le _) (ct_0 (fun k _ => Nat.zero_testBit k)).symm ⟨_, f_1, fun k hk => absurd hk (Nat.not_lt_zero _)⟩ (fun b hb => o_1 b (by omega))
def cysW (l : List Nat) (n w : Nat) : Nat := match w with
  | 0 => cyc l n
  | 1 => fixs l n
  | 2 => ppd l n n
  | _ => lgs l n n
set_option maxHeartbeats 4000000 in
set_option maxRecDepth 20000 in
/-- cycles(u) -/
theorem c_X7_cycles (G : aG) {h : aH} {nx dk a b n sc : Nat} {l : List Nat} (hC : CardsAt h dk a b l sc) (hc : cOk n l) (hn : n ≤ 16) (hb : dk < nx ∧ a < nx ∧ b < nx) (ha : cAll n l) {u : Nat} (hu : u ≤ 3) : aMet G mX7_cycles 17 2 20 [.ref (dk), .int (nI (u))] h nx (pN (.int (nI (cysW l n u))) h nx) := by
  have hC0 := hC
  have hln := hc.1
  refine aMet_of rfl (Nat.le_of_ble_eq_true rfl) ?_
  show aw G mX7_cycles [] (aRoom 17 2 20) (aEnd G (pN (.int (nI (cysW l n u))) h nx) 2 20) 0 0 h nx 0 [(0, .ref (dk)), (1, .int (nI (u)))] []
  obtain ⟨y_1f, y_1g, y_11, y_12, y_13, y_1v⟩ := hC
  refine aw_ic dX7_cycles_0 ic_4 ?_
  refine aw_newarrIV (by decide) w_56 (Nat.le_of_ble_eq_true rfl) (Nat.le_of_ble_eq_true rfl) dX7_cycles_1 (fun h_1 f_1 o_1 => ?_)
  have f_2 := (o_1 dk (by omega)).trans y_11
  have f_3 := (o_1 a (by omega)).trans y_12
  have f_4 := (o_1 b (by omega)).trans y_13
  refine aw_dup dX7_cycles_3 rfl ?_
  refine aw_ic dX7_cycles_4 ic_0 ?_
  refine aw_ic dX7_cycles_5 ic_0 ?_
  refine aw_iastoreV f_1 (by omega) (by omega) dX7_cycles_6 (fun h_2 f_5 o_2 => ?_)
  have f_6 := (o_2 dk (by omega)).trans f_2
  have f_7 := (o_2 a (by omega)).trans f_3
  have f_8 := (o_2 b (by omega)).trans f_4
  refine aw_dup dX7_cycles_7 rfl ?_
  refine aw_ic dX7_cycles_8 ic_1 ?_
  refine aw_ic dX7_cycles_9 ic_0 ?_
  refine aw_iastoreV f_5 (by omega) (by omega) dX7_cycles_10 (fun h_3 f_9 o_3 => ?_)
  have f_10 := (o_3 dk (by omega)).trans f_6
  have f_11 := (o_3 a (by omega)).trans f_7
  have f_12 := (o_3 b (by omega)).trans f_8
  refine aw_dup dX7_cycles_11 rfl ?_
  refine aw_ic dX7_cycles_12 ic_2 ?_
  refine aw_ic dX7_cycles_13 ic_1 ?_
  refine aw_iastoreV f_9 (by omega) (by omega) dX7_cycles_14 (fun h_4 f_13 o_4 => ?_)
  have f_14 := (o_4 dk (by omega)).trans f_10
  have f_15 := (o_4 a (by omega)).trans f_11
  have f_16 := (o_4 b (by omega)).trans f_12
  refine aw_dup dX7_cycles_15 rfl ?_
  refine aw_ic dX7_cycles_16 ic_3 ?_
  refine aw_ic dX7_cycles_17 ic_0 ?_
  refine aw_iastoreV f_13 (by omega) (by omega) dX7_cycles_18 (fun h_5 f_17 o_5 => ?_)
  have f_18 := (o_5 dk (by omega)).trans f_14
  have f_19 := (o_5 a (by omega)).trans f_15
  have f_20 := (o_5 b (by omega)).trans f_16
  refine aw_astore_n (L' := [(2, .ref (nx)), (0, .ref (dk)), (1, .int (nI (u)))]) dX7_cycles_19 (by decide) rfl ?_
  refine aw_aload_n dX7_cycles_20 rfl ?_
  have oB : ∀ q, q < nx → h_5 q = h q := fun q hq => (((((o_5 q (by omega)).trans (o_4 q (by omega))).trans (o_3 q (by omega))).trans (o_2 q (by omega))).trans (o_1 q (by omega)))
  refine aw_callVR (As := []) (rest := []) (c_X7_size G (hC0.keep (oB dk (by omega)) (oB a (by omega)) (oB b (by omega))) hc hn) kX7_size w_911 f_18 rfl rfl rfl rfl (Nat.le_of_ble_eq_true rfl) dX7_cycles_21 ⟨Nat.le_of_ble_eq_true rfl, Nat.le_of_ble_eq_true rfl⟩ ⟨Nat.le_of_ble_eq_true rfl, Nat.le_of_ble_eq_true rfl⟩ ?_
  refine aw_newarrZV (by omega) w_792 (Nat.le_of_ble_eq_true rfl) (show 4 + l.length ≤ 20 by omega) dX7_cycles_24 (fun h_6 f_21 o_6 => ?_)
  have f_22 := (o_6 nx (by omega)).trans f_17
  have f_23 := (o_6 dk (by omega)).trans f_18
  have f_24 := (o_6 a (by omega)).trans f_19
  have f_25 := (o_6 b (by omega)).trans f_20
  refine aw_nx (show nx + 1 + 1 = nx + 2 from rfl) ?_
  refine aw_astore_n (L' := [(3, .ref (nx + 1)), (2, .ref (nx)), (0, .ref (dk)), (1, .int (nI (u)))]) dX7_cycles_26 (by decide) rfl ?_
  refine aw_ic dX7_cycles_27 ic_0 ?_
  refine aw_istore (L' := [(4, .int (nI (0))), (3, .ref (nx + 1)), (2, .ref (nx)), (0, .ref (dk)), (1, .int (nI (u)))]) dX7_cycles_28 (by decide) rfl ?_
  refine aw_widen (cells' := 2) (slots' := 20) (by omega) (by omega) ?_
  have K : ∀ (d : Nat) (k : Nat) (h1 : aH), l.length - k < d → (k ≤ l.length) → (∃ f : Nat → Int32, h1 nx = some (.inl (0, 4, .inl f)) ∧ f 0 = nI (ct (fun p => decide (lsr l p n = p)) k) ∧ f 1 = nI (ct (fun i => decide (cd l i = i)) k) ∧ f 2 = nI (ppd l n k) ∧ f 3 = nI (lgs l n k)) → (∃ (g : Nat → Int32) (sn : Nat → Bool), h1 (nx + 1) = some (.inl (1, l.length, .inl g)) ∧ (∀ x, x < l.length → g x = bI (sn x)) ∧ ∀ x, x < l.length → (sn x = true ↔ onO l k x)) → (∀ b, b < nx → h1 b = h b) → aw G mX7_cycles [] (aRoom 17 2 20) (aEnd G (pN (.int (nI (cysW l n u))) h nx) 2 20) 2 20 h1 (nx + 1 + 1) 30 [(0, .ref (dk)), (1, .int (nI (u))), (2, .ref (nx)), (3, .ref (nx + 1)), (4, .int (nI (k)))] [] := by
    intro d
    induction d with
    | zero => intro k h1 hMd; exact absurd hMd (Nat.not_lt_zero _)
    | succ d ih =>
      intro k h1 hMd hk hT hS ho
      obtain ⟨f, hf, f0, f1, f2, f3⟩ := hT
      obtain ⟨g, sn, hg, g1, g2⟩ := hS
      have hCk := hC0.keep (ho dk (by omega)) (ho a (by omega)) (ho b (by omega))
      have hCk0 := hCk
      obtain ⟨y_2f, y_2g, y_21, y_22, y_23, y_2v⟩ := hCk
      have hp0 := ct_le (fun p => decide (lsr l p n = p)) k
      have hp1 := ct_le (fun i => decide (cd l i = i)) k
      refine aw_iload dX7_cycles_30 rfl ?_
      refine aw_aload_n dX7_cycles_32 rfl ?_
      refine aw_callVR (As := []) (rest := [.int (nI (k))]) (c_X7_size G hCk0 hc hn) kX7_size w_911 y_21 rfl rfl rfl rfl (Nat.le_of_ble_eq_true rfl) dX7_cycles_33 ⟨Nat.le_of_ble_eq_true rfl, Nat.le_of_ble_eq_true rfl⟩ ⟨Nat.le_of_ble_eq_true rfl, Nat.le_of_ble_eq_true rfl⟩ ?_
      refine aw_icmp_geN (tgt := 140) (by omega) (by omega) dX7_cycles_36 (by decide) (fun c1 => ?_) (fun c1 => ?_)
      · skip
        have ek : k = n := by omega
        rw [ek] at f0 f1 f2 f3
        have hfu : f u = nI (cysW l n u) := by rcases (show u = 0 ∨ u = 1 ∨ u = 2 ∨ u = 3 by omega) with rfl | rfl | rfl | rfl; exact f0; exact f1; exact f2; exact f3
        refine aw_aload_n dX7_cycles_140 rfl ?_
        refine aw_iload_n dX7_cycles_141 rfl ?_
        refine aw_iaload hf (by omega) (by omega) dX7_cycles_142 ?_
        refine aw_top (show (f u) = (nI (cysW l n u)) from hfu) ?_
        exact aw_ireturn dX7_cycles_143 rfl ⟨_, rfl, rfl, by omega, ho⟩ (Nat.le_of_ble_eq_true rfl) (Nat.le_of_ble_eq_true rfl)
      · skip
        have hkn : k < n := by omega
        have hcp := cyl_pos (l := l) (n := n) (s := k)
        have hcl := cyl_le (l := l) (n := n) (s := k) (by omega)
        have ihO := ih
        refine aw_ic dX7_cycles_39 ic_0 ?_
        refine aw_istore (L' := [(5, .int (nI (0))), (0, .ref (dk)), (1, .int (nI (u))), (2, .ref (nx)), (3, .ref (nx + 1)), (4, .int (nI (k)))]) dX7_cycles_40 (by decide) rfl ?_
        refine aw_iload dX7_cycles_42 rfl ?_
        refine aw_istore (L' := [(6, .int (nI (k))), (5, .int (nI (0))), (0, .ref (dk)), (1, .int (nI (u))), (2, .ref (nx)), (3, .ref (nx + 1)), (4, .int (nI (k)))]) dX7_cycles_44 (by decide) rfl ?_
        by_cases hon : onO l k k
        · skip
          obtain ⟨-, w1, w2, w3, w4, w5⟩ := seen_same hc ha hkn hon
          have hsk := (g2 k c1).mpr hon
          refine aw_aload_n dX7_cycles_46 rfl ?_
          refine aw_iload dX7_cycles_47 rfl ?_
          refine aw_zaload hg (by omega) (by omega) dX7_cycles_49 ?_
          refine aw_top (show (g k) = (bI (sn k)) from g1 k c1) ?_
          refine aw_if_neB (tgt := 73) dX7_cycles_50 (by decide) (fun c2 => ?_) (fun c2 => absurd c2 (by rw [hsk]; decide))
          refine aw_iload dX7_cycles_73 rfl ?_
          refine aw_if_neN (tgt := 81) (by omega) dX7_cycles_75 (by decide) (fun c3 => absurd c3 (by omega)) (fun c3 => ?_)
          refine aw_goto (tgt := 134) dX7_cycles_78 (by decide) ?_
          refine aw_iincN (k := 1) (L' := [(4, .int (nI (k + 1))), (6, .int (nI (k))), (5, .int (nI (0))), (0, .ref (dk)), (1, .int (nI (u))), (2, .ref (nx)), (3, .ref (nx + 1))]) dX7_cycles_134 (by decide) rfl (by decide) rfl ?_
          refine aw_goto (tgt := 30) dX7_cycles_137 (by decide) ?_
          refine aw_sub (L' := [(0, .ref (dk)), (1, .int (nI (u))), (2, .ref (nx)), (3, .ref (nx + 1)), (4, .int (nI (k + 1)))]) [3, 4, 5, 6, 0] rfl ?_
          exact ihO (k + 1) h1 (by omega) (by omega) ⟨f, hf, by rw [ct_f (p := (fun p => decide (lsr l p n = p))) (decide_eq_false w1)]; exact f0, by rw [ct_f (p := (fun i => decide (cd l i = i))) (decide_eq_false w2)]; exact f1, by rw [w3]; exact f2, by rw [w4]; exact f3⟩ ⟨g, sn, hg, g1, fun x hx => (g2 x hx).trans (w5 x).symm⟩ ho
        · skip
          refine aw_to ?_ (show ([(6, .int (nI (k))), (5, .int (nI (0))), (0, .ref (dk)), (1, .int (nI (u))), (2, .ref (nx)), (3, .ref (nx + 1)), (4, .int (nI (k)))] : aL) = [(6, .int (nI (itr l 0 k))), (5, .int (nI (0))), (0, .ref (dk)), (1, .int (nI (u))), (2, .ref (nx)), (3, .ref (nx + 1)), (4, .int (nI (k)))] from rfl) rfl rfl
          have K2 : ∀ (d : Nat) (t : Nat) (h1 : aH), cyl l n k - t < d → (t ≤ cyl l n k) → (h1 nx = some (.inl (0, 4, .inl f))) → (∃ (g : Nat → Int32) (sn : Nat → Bool), h1 (nx + 1) = some (.inl (1, l.length, .inl g)) ∧ (∀ x, x < l.length → g x = bI (sn x)) ∧ ∀ x, x < l.length → (sn x = true ↔ (onO l k x ∨ ∃ u, u < t ∧ itr l u k = x))) → (∀ b, b < nx → h1 b = h b) → aw G mX7_cycles [] (aRoom 17 2 20) (aEnd G (pN (.int (nI (cysW l n u))) h nx) 2 20) 2 20 h1 (nx + 1 + 1) 46 [(0, .ref (dk)), (1, .int (nI (u))), (2, .ref (nx)), (3, .ref (nx + 1)), (4, .int (nI (k))), (5, .int (nI (t))), (6, .int (nI (itr l t k)))] [] := by
            intro d
            induction d with
            | zero => intro t h1 hMd; exact absurd hMd (Nat.not_lt_zero _)
            | succ d ih =>
              intro t h1 hMd ht hf hS ho
              obtain ⟨g, sn, hg, g1, g2⟩ := hS
              have hCk := hC0.keep (ho dk (by omega)) (ho a (by omega)) (ho b (by omega))
              have hCk0 := hCk
              obtain ⟨y_3f, y_3g, y_31, y_32, y_33, y_3v⟩ := hCk
              have hit := itr_lt hc hkn t
              have hci := hc.2 (itr l t k) (by omega)
              refine aw_aload_n dX7_cycles_46 rfl ?_
              refine aw_iload dX7_cycles_47 rfl ?_
              refine aw_zaload hg (by omega) (by omega) dX7_cycles_49 ?_
              refine aw_top (show (g (itr l t k)) = (bI (sn (itr l t k))) from g1 _ (by omega)) ?_
              refine aw_if_neB (tgt := 73) dX7_cycles_50 (by decide) (fun c2 => ?_) (fun c2 => ?_)
              · skip
                have ct9 : t = cyl l n k := by
                  rcases (g2 (itr l t k) (by omega)).mp c2 with q | ⟨w, hw, e9⟩
                  · exact absurd q (new_all hc ha hkn hon t)
                  · rcases Nat.lt_or_ge t (cyl l n k) with z | z
                    · exact absurd e9 (itr_ne hc ha hkn hw z)
                    · omega
                have g0 := ppd_dvd (l := l) (n := n) (by omega) hn k
                have g0b := Nat.le_of_dvd (by decide) g0
                have g0c := dvd_pos g0 (by decide)
                have g4 := lgs_le (l := l) (n := n) (by omega) k
                refine aw_iload dX7_cycles_73 rfl ?_
                refine aw_if_neN (tgt := 81) (by omega) dX7_cycles_75 (by decide) (fun c3 => ?_) (fun c3 => absurd c3 (by omega))
                refine aw_aload_n dX7_cycles_81 rfl ?_
                refine aw_ic dX7_cycles_82 ic_0 ?_
                refine aw_dup2 dX7_cycles_83 rfl rfl ?_
                refine aw_iaload hf (by omega) (by omega) dX7_cycles_84 ?_
                refine aw_top (show (f 0) = (nI (ct (fun p => decide (lsr l p n = p)) k)) from f0) ?_
                refine aw_ic dX7_cycles_85 ic_1 ?_
                refine aw_iaddN dX7_cycles_86 ?_
                refine aw_iastoreV hf (by omega) (by omega) dX7_cycles_87 (fun h_7 f_26 o_7 => ?_)
                have f_27 := (o_7 dk (by omega)).trans y_31
                have f_28 := (o_7 a (by omega)).trans y_32
                have f_29 := (o_7 b (by omega)).trans y_33
                have f_30 := (o_7 (nx + 1) (by omega)).trans hg
                refine aw_aload_n dX7_cycles_88 rfl ?_
                refine aw_ic dX7_cycles_89 ic_1 ?_
                refine aw_dup2 dX7_cycles_90 rfl rfl ?_
                refine aw_iaload f_26 (by omega) (by omega) dX7_cycles_91 ?_
                refine aw_top (show ((upd f 0 (nI ((ct (fun p => decide (lsr l p n = p)) k) + 1))) 1) = (nI (ct (fun i => decide (cd l i = i)) k)) from (show (upd f 0 (nI ((ct (fun p => decide (lsr l p n = p)) k) + 1))) 1 = nI (ct (fun i => decide (cd l i = i)) k) by unfold upd; rw [if_neg (by decide)]; exact f1)) ?_
                refine aw_iload dX7_cycles_92 rfl ?_
                refine aw_ic dX7_cycles_94 ic_1 ?_
                have J : ∀ e : Nat, e = (if cd l k = k then 1 else 0) → aw G mX7_cycles [] (aRoom 17 2 20) (aEnd G (pN (.int (nI (cysW l n u))) h nx) 2 20) 2 20 h_7 (nx + 1 + 1) 103 [(0, .ref (dk)), (1, .int (nI (u))), (2, .ref (nx)), (3, .ref (nx + 1)), (4, .int (nI (k))), (5, .int (nI (t))), (6, .int (nI (itr l t k)))] [.int (nI (e)), .int (nI (ct (fun i => decide (cd l i = i)) k)), .int (nI (1)), .ref (nx)] := by
                  intro e he
                  have heb : e ≤ 1 := by rw [he]; split <;> omega
                  refine aw_iaddN dX7_cycles_103 ?_
                  refine aw_iastoreV f_26 (by omega) (by omega) dX7_cycles_104 (fun h_8 f_31 o_8 => ?_)
                  have f_32 := (o_8 dk (by omega)).trans f_27
                  have f_33 := (o_8 a (by omega)).trans f_28
                  have f_34 := (o_8 b (by omega)).trans f_29
                  have f_35 := (o_8 (nx + 1) (by omega)).trans f_30
                  refine aw_aload_n dX7_cycles_105 rfl ?_
                  refine aw_ic dX7_cycles_106 ic_2 ?_
                  refine aw_aload_n dX7_cycles_107 rfl ?_
                  refine aw_ic dX7_cycles_108 ic_2 ?_
                  refine aw_iaload f_31 (by omega) (by omega) dX7_cycles_109 ?_
                  refine aw_top (show ((upd (upd f 0 (nI ((ct (fun p => decide (lsr l p n = p)) k) + 1))) 1 (nI ((ct (fun i => decide (cd l i = i)) k) + e))) 2) = (nI (ppd l n k)) from by simp [upd, f2]) ?_
                  refine aw_aload_n dX7_cycles_110 rfl ?_
                  refine aw_ic dX7_cycles_111 ic_2 ?_
                  refine aw_iaload f_31 (by omega) (by omega) dX7_cycles_112 ?_
                  refine aw_top (show ((upd (upd f 0 (nI ((ct (fun p => decide (lsr l p n = p)) k) + 1))) 1 (nI ((ct (fun i => decide (cd l i = i)) k) + e))) 2) = (nI (ppd l n k)) from by simp [upd, f2]) ?_
                  refine aw_iload dX7_cycles_113 rfl ?_
                  have hgp := Nat.gcd_pos_of_pos_left t g0c
                  have hgl := Nat.gcd_le_right (ppd l n k) (show 0 < t by omega)
                  refine aw_callSNR (As := [.int (nI (ppd l n k)), .int (nI (t))]) (rest := [.int (nI (ppd l n k)), .int (nI (2)), .ref (nx)]) (c_X9_common G t (ppd l n k) t (Nat.le_refl _) (by omega) (by omega)) kX9_common w_1039 rfl rfl (Nat.le_of_ble_eq_true rfl) dX7_cycles_115 ⟨(show t + 1 ≤ 17 by omega), (show 8 + (2 + 11) + 40 * t ≤ 40 * 17 by omega)⟩ ⟨Nat.le_of_ble_eq_true rfl, Nat.le_of_ble_eq_true rfl⟩ ?_
                  refine aw_idivN (by omega) (by omega) (by omega) dX7_cycles_118 ?_
                  refine aw_iload dX7_cycles_119 rfl ?_
                  refine aw_imulN dX7_cycles_121 ?_
                  refine aw_top (show (nI (((ppd l n k) / (Nat.gcd (ppd l n k) t)) * t)) = (nI (ppd l n (k + 1))) from by rw [lcm_div]; show _ = nI (Nat.lcm (ppd l n k) (cyl l n k)); rw [ct9]) ?_
                  refine aw_iastoreV f_31 (by omega) (by omega) dX7_cycles_122 (fun h_9 f_36 o_9 => ?_)
                  have f_37 := (o_9 dk (by omega)).trans f_32
                  have f_38 := (o_9 a (by omega)).trans f_33
                  have f_39 := (o_9 b (by omega)).trans f_34
                  have f_40 := (o_9 (nx + 1) (by omega)).trans f_35
                  refine aw_aload_n dX7_cycles_123 rfl ?_
                  refine aw_ic dX7_cycles_124 ic_3 ?_
                  refine aw_aload_n dX7_cycles_125 rfl ?_
                  refine aw_ic dX7_cycles_126 ic_3 ?_
                  refine aw_iaload f_36 (by omega) (by omega) dX7_cycles_127 ?_
                  refine aw_top (show ((upd (upd (upd f 0 (nI ((ct (fun p => decide (lsr l p n = p)) k) + 1))) 1 (nI ((ct (fun i => decide (cd l i = i)) k) + e))) 2 (nI (ppd l n (k + 1)))) 3) = (nI (lgs l n k)) from by simp [upd, f3]) ?_
                  refine aw_iload dX7_cycles_128 rfl ?_
                  refine aw_max w_1043 w_315 w_16 w_316 (Nat.le_of_ble_eq_true rfl) (Nat.le_of_ble_eq_true rfl) (Nat.le_of_ble_eq_true rfl) (Nat.le_of_ble_eq_true rfl) dX7_cycles_130 ?_
                  refine aw_top (show (if (nI (lgs l n k)) < (nI (t)) then (nI (t)) else (nI (lgs l n k))) = (nI (lgs l n (k + 1))) from by rw [n_max _ _ (by omega) (by omega)]; show _ = nI (max (lgs l n k) (cyl l n k)); rw [ct9]) ?_
                  refine aw_iastoreV f_36 (by omega) (by omega) dX7_cycles_133 (fun h_10 f_41 o_10 => ?_)
                  have f_42 := (o_10 dk (by omega)).trans f_37
                  have f_43 := (o_10 a (by omega)).trans f_38
                  have f_44 := (o_10 b (by omega)).trans f_39
                  have f_45 := (o_10 (nx + 1) (by omega)).trans f_40
                  refine aw_iincN (k := 1) (L' := [(4, .int (nI (k + 1))), (0, .ref (dk)), (1, .int (nI (u))), (2, .ref (nx)), (3, .ref (nx + 1)), (5, .int (nI (t))), (6, .int (nI (itr l t k)))]) dX7_cycles_134 (by decide) rfl (by decide) rfl ?_
                  refine aw_goto (tgt := 30) dX7_cycles_137 (by decide) ?_
                  refine aw_sub (L' := [(0, .ref (dk)), (1, .int (nI (u))), (2, .ref (nx)), (3, .ref (nx + 1)), (4, .int (nI (k + 1)))]) [1, 2, 3, 4, 0] rfl ?_
                  exact ihO (k + 1) h_10 (by omega) (by omega) ⟨_, f_41, by rw [ct_t (p := (fun p => decide (lsr l p n = p))) (decide_eq_true ((lsr_iff hc ha hkn).mpr hon))]; simp [upd], by show _ = nI (ct (fun i => decide (cd l i = i)) k + (if decide (cd l k = k) then 1 else 0)); simp [upd, he], by simp [upd], by simp [upd]⟩ ⟨g, sn, f_45, g1, fun x hx => (g2 x hx).trans (by rw [ct9]; exact (onO_next hc ha hkn x).symm)⟩ (fun b hb => (((((o_10 b (by omega)).trans (o_9 b (by omega))).trans (o_8 b (by omega))).trans (o_7 b (by omega)))).trans (ho b hb))
                refine aw_icmp_neN (tgt := 102) (by omega) (by omega) dX7_cycles_95 (by decide) (fun c4 => ?_) (fun c4 => ?_)
                · skip
                  refine aw_ic dX7_cycles_102 ic_0 ?_
                  exact J 0 (by rw [if_neg (fun w => c4 (by rw [ct9]; exact (cyl_one hc ha hkn).mpr w))])
                · skip
                  refine aw_ic dX7_cycles_98 ic_1 ?_
                  refine aw_goto (tgt := 103) dX7_cycles_99 (by decide) ?_
                  exact J 1 (by rw [if_pos ((cyl_one hc ha hkn).mp (by rw [← ct9]; exact c4))])
              · skip
                have ht9 : t < cyl l n k := by
                  rcases Nat.lt_or_ge t (cyl l n k) with z | z
                  · exact z
                  · exfalso
                    have e9 : t = cyl l n k := by omega
                    have := (g2 (itr l t k) (by omega)).mpr (Or.inr ⟨0, by omega, by rw [e9, cyl_ret hc ha hkn]; rfl⟩)
                    rw [c2] at this
                    exact absurd this (by decide)
                refine aw_aload_n dX7_cycles_53 rfl ?_
                refine aw_iload dX7_cycles_54 rfl ?_
                refine aw_ic dX7_cycles_56 ic_1 ?_
                refine aw_top (show (nI (1)) = (bI (true)) from rfl) ?_
                refine aw_zastoreV hg (by omega) (by omega) (bI_nar _) dX7_cycles_57 (fun h_11 f_46 o_11 => ?_)
                have f_47 := (o_11 dk (by omega)).trans y_31
                have f_48 := (o_11 a (by omega)).trans y_32
                have f_49 := (o_11 b (by omega)).trans y_33
                have f_50 := (o_11 nx (by omega)).trans hf
                refine aw_iincN (k := 1) (L' := [(5, .int (nI (t + 1))), (0, .ref (dk)), (1, .int (nI (u))), (2, .ref (nx)), (3, .ref (nx + 1)), (4, .int (nI (k))), (6, .int (nI (itr l t k)))]) dX7_cycles_58 (by decide) rfl (by decide) rfl ?_
                refine aw_aload_n dX7_cycles_61 rfl ?_
                refine aw_get 0 f_47 rfl rfl (by decide) w_773 rfl dX7_cycles_62 ?_
                refine aw_iload dX7_cycles_65 rfl ?_
                refine aw_iaload f_48 (by omega) (by omega) dX7_cycles_67 ?_
                refine aw_top (show (y_3f (itr l t k)) = (nI (l.getD (itr l t k) 0 / 2)) from (y_3v _ (by omega)).1) ?_
                refine aw_istore (L' := [(6, .int (nI (l.getD (itr l t k) 0 / 2))), (5, .int (nI (t + 1))), (0, .ref (dk)), (1, .int (nI (u))), (2, .ref (nx)), (3, .ref (nx + 1)), (4, .int (nI (k)))]) dX7_cycles_68 (by decide) rfl ?_
                refine aw_goto (tgt := 46) dX7_cycles_70 (by decide) ?_
                refine aw_to ?_ (show ([(6, .int (nI (l.getD (itr l t k) 0 / 2))), (5, .int (nI (t + 1))), (0, .ref (dk)), (1, .int (nI (u))), (2, .ref (nx)), (3, .ref (nx + 1)), (4, .int (nI (k)))] : aL) = [(6, .int (nI (itr l (t + 1) k))), (5, .int (nI (t + 1))), (0, .ref (dk)), (1, .int (nI (u))), (2, .ref (nx)), (3, .ref (nx + 1)), (4, .int (nI (k)))] from rfl) rfl rfl
                refine aw_sub (L' := [(0, .ref (dk)), (1, .int (nI (u))), (2, .ref (nx)), (3, .ref (nx + 1)), (4, .int (nI (k))), (5, .int (nI (t + 1))), (6, .int (nI (itr l (t + 1) k)))]) [2, 3, 4, 5, 6, 1, 0] rfl ?_
                refine ih (t + 1) h_11 (by omega) (by omega) f_50 ⟨_, (fun x => decide (x = itr l t k) || sn x), f_46, fun x hx => (by unfold upd; by_cases q : x = itr l t k; rw [if_pos q]; show bI true = bI (decide (x = itr l t k) || sn x); rw [decide_eq_true q]; rfl; rw [if_neg q, g1 x hx]; show bI (sn x) = bI (decide (x = itr l t k) || sn x); rw [decide_eq_false q]; rfl), fun x hx => ?_⟩ (fun b hb => (o_11 b (by omega)).trans (ho b hb))
                rw [Bool.or_eq_true, decide_eq_true_eq, g2 x hx]
                constructor
                · rintro (q | q | ⟨w, hw, e9⟩)
                  · exact Or.inr ⟨t, by omega, q.symm⟩
                  · exact Or.inl q
                  · exact Or.inr ⟨w, by omega, e9⟩
                · rintro (q | ⟨w, hw, e9⟩)
                  · exact Or.inr (Or.inl q)
                  · rcases Nat.lt_or_ge w t with z | z
                    · exact Or.inr (Or.inr ⟨w, z, e9⟩)
                    · exact Or.inl (by rw [← e9, show w = t by omega])
          refine aw_sub (L' := [(0, .ref (dk)), (1, .int (nI (u))), (2, .ref (nx)), (3, .ref (nx + 1)), (4, .int (nI (k))), (5, .int (nI (0))), (6, .int (nI (itr l 0 k)))]) [2, 3, 4, 5, 6, 1, 0] rfl ?_
          exact K2 (cyl l n k + 1) 0 h1 (by omega) (Nat.zero_le _) hf ⟨g, sn, hg, g1, fun x hx => (g2 x hx).trans ⟨fun q => Or.inl q, fun q => by rcases q with q | ⟨w, hw, -⟩; exact q; exact absurd hw (Nat.not_lt_zero _)⟩⟩ ho
  refine aw_sub (L' := [(0, .ref (dk)), (1, .int (nI (u))), (2, .ref (nx)), (3, .ref (nx + 1)), (4, .int (nI (0)))]) [3, 4, 2, 1, 0] rfl ?_
  exact K (l.length + 1) 0 h_6 (by omega) (Nat.zero_le _) ⟨_, f_22, by simp [upd, ct], by simp [upd, ct], by simp [upd, ppd], by simp [upd, lgs]⟩ ⟨_, (fun _ => false), f_21, fun x hx => rfl, fun x hx => ⟨fun q => absurd q Bool.false_ne_true, fun ⟨p, hp, _⟩ => absurd hp (Nat.not_lt_zero _)⟩⟩ (fun b hb => (o_6 b (by omega)).trans (oB b hb))
