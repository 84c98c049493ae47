set_option maxHeartbeats 4000000 in
set_option maxRecDepth 20000 in
/-- often(times) -/
theorem c_X8_often (G : aG) {h : aH} {nx w n t : Nat} {s : List Nat} (hW : WayAt h w s) (hs : cOk n s) (hn : n ≤ 16) (hw : w + 3 ≤ nx) (ht : t < 2 ^ 20) : aMet G mX8_often 3 123 1394 [.ref (w), .int (nI (t))] h nx (pQ (fun r h1 n1 => ∃ a, r = some (.ref a) ∧ nx ≤ a ∧ a + 3 ≤ n1 ∧ WayAt h1 a (oft 20 (idL n) s t) ∧ ∀ b, b < nx → h1 b = h b)) := by
  have e1 := hs.1
  have hW0 := hW
  refine aMet_of rfl (Nat.le_of_ble_eq_true rfl) ?_
  show aw G mX8_often [] (aRoom 3 123 1394) (aEnd G (pQ (fun r h1 n1 => ∃ a, r = some (.ref a) ∧ nx ≤ a ∧ a + 3 ≤ n1 ∧ WayAt h1 a (oft 20 (idL n) s t) ∧ ∀ b, b < nx → h1 b = h b)) 123 1394) 0 0 h nx 0 [(0, .ref (w)), (1, .int (nI (t)))] []
  refine aw_newV (ci := 7) (fs := [.null, .null]) rfl w_901 w_880 w_24 (by decide +kernel) (Nat.le_of_ble_eq_true rfl) (Nat.le_of_ble_eq_true rfl) dX8_often_0 (fun h_1 f_1 o_1 => ?_)
  have hW1 := hW.keep (fun a g1 g2 => o_1 a (by omega))
  have hW1c := hW1
  obtain ⟨y_1f, y_1g, y_11, y_12, y_13, y_1v⟩ := hW1c
  refine aw_dup dX8_often_3 rfl ?_
  refine aw_aload_n dX8_often_4 rfl ?_
  refine aw_get 0 y_11 rfl rfl (by decide) w_885 rfl dX8_often_5 ?_
  refine aw_lenI y_12 dX8_often_8 ?_
  rw [e1]
  refine aw_callIQ (As := [.int (nI (n))]) (rest := [.ref (nx)]) (c_X8_init G f_1 hn) kX8_init w_902 rfl rfl (Nat.le_of_ble_eq_true rfl) dX8_often_9 ⟨Nat.le_of_ble_eq_true rfl, Nat.le_of_ble_eq_true rfl⟩ ⟨Nat.le_of_ble_eq_true rfl, Nat.le_of_ble_eq_true rfl⟩ (fun v_1 h_2 n_1 q_1 z_1 => ?_)
  obtain ⟨rfl, rfl, X_1, o_2⟩ := q_1
  refine aw_nx (show _ = nx + 3 from rfl) ?_
  refine aw_astore_n (L' := [(2, .ref (nx)), (0, .ref (w)), (1, .int (nI (t)))]) dX8_often_12 (by decide) rfl ?_
  refine aw_aload_n dX8_often_13 rfl ?_
  refine aw_astore_n (L' := [(3, .ref (w)), (2, .ref (nx)), (0, .ref (w)), (1, .int (nI (t)))]) dX8_often_14 (by decide) rfl ?_
  refine aw_iload_n dX8_often_15 rfl ?_
  refine aw_istore (L' := [(4, .int (nI (t))), (3, .ref (w)), (2, .ref (nx)), (0, .ref (w)), (1, .int (nI (t)))]) dX8_often_16 (by decide) rfl ?_
  have hW2 := hW1.keep (fun a g1 g2 => o_2 a (by omega))
  have K : ∀ (d : Nat) (d1 t2 m p nx1 : Nat) (l2 s2 : List Nat) (h1 : aH), t2 < d → (d1 ≤ 20) → (t2 < 2 ^ d1 ∧ t2 < 2 ^ 20) → (cOk n l2) → (cOk n s2) → (WayAt h1 m l2) → (WayAt h1 p s2) → (m + 3 ≤ nx1 ∧ nx ≤ m) → (p + 3 ≤ nx1) → (oft d1 l2 s2 t2 = oft 20 (idL n) s t) → (∀ b, b < nx → h1 b = h b) → aw G mX8_often [] (aRoom 3 123 1394) (aEnd G (pQ (fun r h1 n1 => ∃ a, r = some (.ref a) ∧ nx ≤ a ∧ a + 3 ≤ n1 ∧ WayAt h1 a (oft 20 (idL n) s t) ∧ ∀ b, b < nx → h1 b = h b)) 123 1394) (3 + 6 * (20 - d1)) (34 + 68 * (20 - d1)) h1 nx1 18 [(0, .ref (w)), (1, .int (nI (t))), (2, .ref (m)), (3, .ref (p)), (4, .int (nI (t2)))] [] := by
    intro d
    induction d with
    | zero => intro d1 t2 m p nx1 l2 s2 h1 hMd; exact absurd hMd (Nat.not_lt_zero _)
    | succ d ih =>
      intro d1 t2 m p nx1 l2 s2 h1 hMd hd ht2 hcl hcs hM hP hm hp hE ho
      have hPb := hP
      refine aw_iload dX8_often_18 rfl ?_
      refine aw_if_leN (tgt := 52) (by omega) dX8_often_20 (by decide) (fun c1 => ?_) (fun c1 => ?_)
      · skip
        refine aw_aload_n dX8_often_52 rfl ?_
        have e9 : oft d1 l2 s2 t2 = l2 := by cases d1 with
          | zero => rfl
          | succ d => simp [oft, c1]
        exact aw_areturn dX8_often_53 rfl (Or.inl ⟨_, rfl⟩) (Or.inr ⟨_, rfl⟩) ⟨_, rfl, m, rfl, hm.2, hm.1, by rw [← hE, e9]; exact hM, ho⟩ (by omega) (by omega)
      · skip
        obtain ⟨d2, rfl⟩ : ∃ d2, d1 = d2 + 1 := by cases d1 with
          | zero => simp at ht2; omega
          | succ d => exact ⟨d, rfl⟩
        have hmm := Nat.mod_lt t2 (show 0 < 2 by decide)
        refine aw_iload dX8_often_23 rfl ?_
        refine aw_ic dX8_often_25 ic_2 ?_
        refine aw_iremN (by omega) (by omega) (by omega) dX8_often_26 ?_
        refine aw_ic dX8_often_27 ic_1 ?_
        have J : ∀ (m3 nx2 : Nat) (l3 : List Nat) (h2 : aH), cOk n l3 → WayAt h2 m3 l3 → WayAt h2 p s2 → (m3 + 3 ≤ nx2 ∧ nx ≤ m3) → p + 3 ≤ nx2 → nx ≤ nx2 → oft d2 l3 (fol s2 s2) (t2 / 2) = oft 20 (idL n) s t → (∀ b, b < nx → h2 b = h b) → aw G mX8_often [] (aRoom 3 123 1394) (aEnd G (pQ (fun r h1 n1 => ∃ a, r = some (.ref a) ∧ nx ≤ a ∧ a + 3 ≤ n1 ∧ WayAt h1 a (oft 20 (idL n) s t) ∧ ∀ b, b < nx → h1 b = h b)) 123 1394) (3 + 6 * (20 - (d2 + 1)) + 3) (34 + 68 * (20 - (d2 + 1)) + 34) h2 nx2 37 [(0, .ref (w)), (1, .int (nI (t))), (2, .ref (m3)), (3, .ref (p)), (4, .int (nI (t2)))] [] := by
          intro m3 nx2 l3 h2 hc3 hM3 hP3 hm3 hp3 hnn hE3 ho3
          have hP4 := hP3
          obtain ⟨y_2f, y_2g, y_21, y_22, y_23, y_2v⟩ := hP4
          refine aw_aload_n dX8_often_37 rfl ?_
          refine aw_aload_n dX8_often_38 rfl ?_
          refine aw_callVQ (As := [.ref (p)]) (rest := []) (c_X8_then G hP3 hP3 hcs hcs hn hp3 hp3) kX8_then w_903 y_21 rfl rfl rfl rfl (Nat.le_of_ble_eq_true rfl) dX8_often_39 ⟨Nat.le_of_ble_eq_true rfl, Nat.le_of_ble_eq_true rfl⟩ ⟨(show 3 + 6 * (20 - (d2 + 1)) + 3 + 3 ≤ 123 by omega), (show 34 + 68 * (20 - (d2 + 1)) + 34 + 34 ≤ 1394 by omega)⟩ (fun v_2 h_3 n_2 q_2 z_2 => ?_)
          obtain ⟨rfl, rfl, X_2, o_3⟩ := q_2
          refine aw_astore_n (L' := [(3, .ref (nx2)), (0, .ref (w)), (1, .int (nI (t))), (2, .ref (m3)), (4, .int (nI (t2)))]) dX8_often_42 (by decide) rfl ?_
          refine aw_iload dX8_often_43 rfl ?_
          refine aw_ic dX8_often_45 ic_2 ?_
          refine aw_idivN (by omega) (by omega) (by omega) dX8_often_46 ?_
          refine aw_istore (L' := [(4, .int (nI (t2 / 2))), (3, .ref (nx2)), (0, .ref (w)), (1, .int (nI (t))), (2, .ref (m3))]) dX8_often_47 (by decide) rfl ?_
          refine aw_goto (tgt := 18) dX8_often_49 (by decide) ?_
          refine aw_widen (cells' := 3 + 6 * (20 - d2)) (slots' := 34 + 68 * (20 - d2)) (show 3 + 6 * (20 - (d2 + 1)) + 3 + 3 ≤ _ by omega) (show 34 + 68 * (20 - (d2 + 1)) + 34 + 34 ≤ _ by omega) ?_
          refine aw_sub (L' := [(0, .ref (w)), (1, .int (nI (t))), (2, .ref (m3)), (3, .ref (nx2)), (4, .int (nI (t2 / 2)))]) [2, 3, 4, 1, 0] rfl ?_
          exact ih d2 (t2 / 2) m3 nx2 (nx2 + 3) l3 (fol s2 s2) h_3 (by omega) (by omega) ⟨by rw [Nat.pow_succ] at ht2; omega, by omega⟩ hc3 (fol_cOk hcs hcs) (hM3.keep (fun a g1 g2 => o_3 a (by omega))) X_2 ⟨by omega, hm3.2⟩ (by omega) hE3 (fun b hb => (o_3 b (by omega)).trans (ho3 b hb))
        refine aw_icmp_neN (tgt := 37) (by omega) (by omega) dX8_often_28 (by decide) (fun c2 => ?_) (fun c2 => ?_)
        · skip
          refine aw_widen (cells' := 3 + 6 * (20 - (d2 + 1)) + 3) (slots' := 34 + 68 * (20 - (d2 + 1)) + 34) (by omega) (by omega) ?_
          exact J m nx1 l2 h1 hcl hM hP hm hp (by omega) (by rw [← hE]; simp [oft, show t2 ≠ 0 by omega, show ¬ t2 % 2 = 1 by omega]) ho
        · skip
          have hMc := hM
          obtain ⟨y_3f, y_3g, y_31, y_32, y_33, y_3v⟩ := hMc
          refine aw_aload_n dX8_often_31 rfl ?_
          refine aw_aload_n dX8_often_32 rfl ?_
          refine aw_callVQ (As := [.ref (p)]) (rest := []) (c_X8_then G hM hP hcl hcs hn hm.1 hp) kX8_then w_903 y_31 rfl rfl rfl rfl (Nat.le_of_ble_eq_true rfl) dX8_often_33 ⟨Nat.le_of_ble_eq_true rfl, Nat.le_of_ble_eq_true rfl⟩ ⟨(show 3 + 6 * (20 - (d2 + 1)) + 3 ≤ 123 by omega), (show 34 + 68 * (20 - (d2 + 1)) + 34 ≤ 1394 by omega)⟩ (fun v_3 h_4 n_3 q_3 z_3 => ?_)
          obtain ⟨rfl, rfl, X_3, o_4⟩ := q_3
          refine aw_astore_n (L' := [(2, .ref (nx1)), (0, .ref (w)), (1, .int (nI (t))), (3, .ref (p)), (4, .int (nI (t2)))]) dX8_often_36 (by decide) rfl ?_
          refine aw_sub (L' := [(0, .ref (w)), (1, .int (nI (t))), (2, .ref (nx1)), (3, .ref (p)), (4, .int (nI (t2)))]) [1, 2, 0, 3, 4] rfl ?_
          exact J nx1 (nx1 + 3) (fol l2 s2) h_4 (fol_cOk hcl hcs) X_3 (hP.keep (fun a g1 g2 => o_4 a (by omega))) ⟨by omega, by omega⟩ (by omega) (by omega) (by rw [← hE]; simp [oft, show t2 ≠ 0 by omega, show t2 % 2 = 1 by omega]) (fun b hb => (o_4 b (by omega)).trans (ho b hb))
  refine aw_sub (L' := [(0, .ref (w)), (1, .int (nI (t))), (2, .ref (nx)), (3, .ref (w)), (4, .int (nI (t)))]) [3, 4, 2, 1, 0] rfl ?_
  exact K (t + 1) 20 t nx w (nx + 3) (idL n) s h_2 (by omega) (by omega) ⟨ht, ht⟩ idL_cOk hs X_1 hW2 ⟨by omega, by omega⟩ (by omega) rfl (fun b hb => (o_2 b (by omega)).trans (o_1 b (by omega)))
