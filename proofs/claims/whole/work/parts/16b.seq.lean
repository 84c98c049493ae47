set_option maxHeartbeats 4000000 in
set_option maxRecDepth 20000 in
/-- length() -/
theorem c_X4_length (G : aG) {h : aH} {nx q : Nat} {st : aSt} (hS : SeqAt h q st) : aMet G mX4_length 0 0 0 [.ref (q)] h nx (pI (nI st.length) h nx) := by
  refine aMet_of rfl (Nat.le_of_ble_eq_true rfl) ?_
  show aw G mX4_length [] (aRoom 0 0 0) (aEnd G (pI (nI st.length) h nx) 0 0) 0 0 h nx 0 [(0, .ref (q))] []
  obtain ⟨s_1f, s_1g, s_11, s_12, s_13, s_1l, s_1v⟩ := hS
  refine aw_aload_n dX4_length_0 rfl ?_
  refine aw_get 2 s_11 rfl rfl (by decide) w_86 rfl dX4_length_1 ?_
  exact aw_ireturn dX4_length_4 rfl ⟨rfl, rfl, rfl⟩ (Nat.le_of_ble_eq_true rfl) (Nat.le_of_ble_eq_true rfl)
set_option maxHeartbeats 4000000 in
set_option maxRecDepth 20000 in
/-- has(i), within -/
theorem c_X4_has (G : aG) {h : aH} {nx q : Nat} {st : aSt} (hS : SeqAt h q st) {i : Nat} (hi : i < st.length) : aMet G mX4_has 0 0 0 [.ref (q), .int (nI (i))] h nx (pI (bI true) h nx) := by
  refine aMet_of rfl (Nat.le_of_ble_eq_true rfl) ?_
  show aw G mX4_has [] (aRoom 0 0 0) (aEnd G (pI (bI true) h nx) 0 0) 0 0 h nx 0 [(0, .ref (q)), (1, .int (nI (i)))] []
  obtain ⟨s_1f, s_1g, s_11, s_12, s_13, s_1l, s_1v⟩ := hS
  refine aw_iload_n dX4_has_0 rfl ?_
  refine aw_if_ltN (tgt := 22) (by omega) dX4_has_1 (by decide) ?_
  refine aw_iload_n dX4_has_4 rfl ?_
  refine aw_aload_n dX4_has_5 rfl ?_
  refine aw_get 2 s_11 rfl rfl (by decide) w_86 rfl dX4_has_6 ?_
  refine aw_icmp_geN (tgt := 22) (by omega) (by omega) dX4_has_9 (by decide) (fun c2 => absurd c2 (by omega)) (fun c2 => ?_)
  refine aw_iload_n dX4_has_12 rfl ?_
  refine aw_bp (v := 8) dX4_has_13 (by decide) ?_
  refine aw_icmp_geN (tgt := 22) (by omega) (by omega) dX4_has_15 (by decide) (fun c3 => absurd c3 (by omega)) (fun c3 => ?_)
  refine aw_ic dX4_has_18 ic_1 ?_
  refine aw_goto (tgt := 23) dX4_has_19 (by decide) ?_
  exact aw_zreturn dX4_has_23 rfl (bI_nar true) ⟨rfl, rfl, rfl⟩ (Nat.le_of_ble_eq_true rfl) (Nat.le_of_ble_eq_true rfl)
set_option maxHeartbeats 4000000 in
set_option maxRecDepth 20000 in
/-- kindAt(i), within -/
theorem c_X4_kindAt (G : aG) {h : aH} {nx q : Nat} {st : aSt} (hS : SeqAt h q st) {i : Nat} (hi : i < st.length) : aMet G mX4_kindAt 1 0 0 [.ref (q), .int (nI (i))] h nx (pI (nI (st.getD i (0, 0)).1) h nx) := by
  have hS0 := hS
  refine aMet_of rfl (Nat.le_of_ble_eq_true rfl) ?_
  show aw G mX4_kindAt [] (aRoom 1 0 0) (aEnd G (pI (nI (st.getD i (0, 0)).1) h nx) 0 0) 0 0 h nx 0 [(0, .ref (q)), (1, .int (nI (i)))] []
  obtain ⟨s_1f, s_1g, s_11, s_12, s_13, s_1l, s_1v⟩ := hS
  refine aw_aload_n dX4_kindAt_0 rfl ?_
  refine aw_iload_n dX4_kindAt_1 rfl ?_
  refine aw_callVR (As := [.int (nI (i))]) (rest := []) (c_X4_has G hS0 hi) kX4_has w_469 s_11 rfl rfl rfl rfl (Nat.le_of_ble_eq_true rfl) dX4_kindAt_2 ⟨Nat.le_of_ble_eq_true rfl, Nat.le_of_ble_eq_true rfl⟩ ⟨Nat.le_of_ble_eq_true rfl, Nat.le_of_ble_eq_true rfl⟩ ?_
  refine aw_if_eqB (tgt := 17) dX4_kindAt_5 (by decide) (fun c1 => absurd c1 (by decide)) (fun c1 => ?_)
  refine aw_aload_n dX4_kindAt_8 rfl ?_
  refine aw_get 0 s_11 rfl rfl (by decide) w_84 rfl dX4_kindAt_9 ?_
  refine aw_iload_n dX4_kindAt_12 rfl ?_
  refine aw_iaload s_12 (by omega) (by omega) dX4_kindAt_13 ?_
  refine aw_top (show (s_1f i) = (nI ((st.getD i (0, 0)).1)) from (s_1v i hi).1) ?_
  refine aw_goto (tgt := 18) dX4_kindAt_14 (by decide) ?_
  exact aw_ireturn dX4_kindAt_18 rfl ⟨rfl, rfl, rfl⟩ (Nat.le_of_ble_eq_true rfl) (Nat.le_of_ble_eq_true rfl)
set_option maxHeartbeats 4000000 in
set_option maxRecDepth 20000 in
/-- numberAt(i), within -/
theorem c_X4_numberAt (G : aG) {h : aH} {nx q : Nat} {st : aSt} (hS : SeqAt h q st) {i : Nat} (hi : i < st.length) : aMet G mX4_numberAt 1 0 0 [.ref (q), .int (nI (i))] h nx (pI (nI (st.getD i (0, 0)).2) h nx) := by
  have hS0 := hS
  refine aMet_of rfl (Nat.le_of_ble_eq_true rfl) ?_
  show aw G mX4_numberAt [] (aRoom 1 0 0) (aEnd G (pI (nI (st.getD i (0, 0)).2) h nx) 0 0) 0 0 h nx 0 [(0, .ref (q)), (1, .int (nI (i)))] []
  obtain ⟨s_1f, s_1g, s_11, s_12, s_13, s_1l, s_1v⟩ := hS
  refine aw_aload_n dX4_numberAt_0 rfl ?_
  refine aw_iload_n dX4_numberAt_1 rfl ?_
  refine aw_callVR (As := [.int (nI (i))]) (rest := []) (c_X4_has G hS0 hi) kX4_has w_469 s_11 rfl rfl rfl rfl (Nat.le_of_ble_eq_true rfl) dX4_numberAt_2 ⟨Nat.le_of_ble_eq_true rfl, Nat.le_of_ble_eq_true rfl⟩ ⟨Nat.le_of_ble_eq_true rfl, Nat.le_of_ble_eq_true rfl⟩ ?_
  refine aw_if_eqB (tgt := 17) dX4_numberAt_5 (by decide) (fun c1 => absurd c1 (by decide)) (fun c1 => ?_)
  refine aw_aload_n dX4_numberAt_8 rfl ?_
  refine aw_get 1 s_11 rfl rfl (by decide) w_85 rfl dX4_numberAt_9 ?_
  refine aw_iload_n dX4_numberAt_12 rfl ?_
  refine aw_iaload s_13 (by omega) (by omega) dX4_numberAt_13 ?_
  refine aw_top (show (s_1g i) = (nI ((st.getD i (0, 0)).2)) from (s_1v i hi).2) ?_
  refine aw_goto (tgt := 18) dX4_numberAt_14 (by decide) ?_
  exact aw_ireturn dX4_numberAt_18 rfl ⟨rfl, rfl, rfl⟩ (Nat.le_of_ble_eq_true rfl) (Nat.le_of_ble_eq_true rfl)
set_option maxHeartbeats 4000000 in
set_option maxRecDepth 20000 in
/-- add(kind, number), where there is room -/
theorem c_X4_add (G : aG) {h : aH} {nx q : Nat} {st : aSt} (hS : SeqAt h q st) {k m : Nat} (hn : st.length < 8) : aMet G mX4_add 0 0 0 [.ref (q), .int (nI (k)), .int (nI (m))] h nx (pQ (fun v h1 n1 => v = none ∧ n1 = nx ∧ SeqAt h1 q (st ++ [(k, m)]) ∧ aOff h h1 q 3)) := by
  refine aMet_of rfl (Nat.le_of_ble_eq_true rfl) ?_
  show aw G mX4_add [] (aRoom 0 0 0) (aEnd G (pQ (fun v h1 n1 => v = none ∧ n1 = nx ∧ SeqAt h1 q (st ++ [(k, m)]) ∧ aOff h h1 q 3)) 0 0) 0 0 h nx 0 [(0, .ref (q)), (1, .int (nI (k))), (2, .int (nI (m)))] []
  obtain ⟨s_1f, s_1g, s_11, s_12, s_13, s_1l, s_1v⟩ := hS
  refine aw_aload_n dX4_add_0 rfl ?_
  refine aw_get 2 s_11 rfl rfl (by decide) w_86 rfl dX4_add_1 ?_
  refine aw_bp (v := 8) dX4_add_4 (by decide) ?_
  refine aw_icmp_geN (tgt := 39) (by omega) (by omega) dX4_add_6 (by decide) (fun c1 => absurd c1 (by omega)) (fun c1 => ?_)
  refine aw_aload_n dX4_add_9 rfl ?_
  refine aw_get 0 s_11 rfl rfl (by decide) w_84 rfl dX4_add_10 ?_
  refine aw_aload_n dX4_add_13 rfl ?_
  refine aw_get 2 s_11 rfl rfl (by decide) w_86 rfl dX4_add_14 ?_
  refine aw_iload_n dX4_add_17 rfl ?_
  refine aw_iastoreV s_12 (by omega) (by omega) dX4_add_18 (fun h_1 f_1 o_1 => ?_)
  have f_2 := (o_1 q (by omega)).trans s_11
  have f_3 := (o_1 (q + 2) (by omega)).trans s_13
  refine aw_aload_n dX4_add_19 rfl ?_
  refine aw_get 1 f_2 rfl rfl (by decide) w_85 rfl dX4_add_20 ?_
  refine aw_aload_n dX4_add_23 rfl ?_
  refine aw_get 2 f_2 rfl rfl (by decide) w_86 rfl dX4_add_24 ?_
  refine aw_iload_n dX4_add_27 rfl ?_
  refine aw_iastoreV f_3 (by omega) (by omega) dX4_add_28 (fun h_2 f_4 o_2 => ?_)
  have f_5 := (o_2 (q + 1) (by omega)).trans f_1
  have f_6 := (o_2 q (by omega)).trans f_2
  refine aw_aload_n dX4_add_29 rfl ?_
  refine aw_dup dX4_add_30 rfl ?_
  refine aw_get 2 f_6 rfl rfl (by decide) w_86 rfl dX4_add_31 ?_
  refine aw_ic dX4_add_34 ic_1 ?_
  refine aw_iaddN dX4_add_35 ?_
  refine aw_putV (v := .int (nI (st.length + 1))) (ty := .int) (fs' := [.ref (q + 1), .ref (q + 2), .int (nI (st.length + 1))]) 2 f_6 rfl rfl (by decide) (by decide +kernel) rfl rfl rfl (Nat.le_of_ble_eq_true rfl) rfl w_86 dX4_add_36 (fun h_3 f_7 o_3 => ?_)
  have f_8 := (o_3 (q + 2) (by omega)).trans f_4
  have f_9 := (o_3 (q + 1) (by omega)).trans f_5
  refine aw_return dX4_add_39 rfl ⟨_, rfl, rfl, rfl, ⟨_, _, by rw [List.length_append]; exact f_7, f_9, f_8, by rw [List.length_append]; exact hn, fun i hi => ?_⟩, fun a ha => (((o_3 a (by omega)).trans (o_2 a (by omega))).trans (o_1 a (by omega)))⟩ (Nat.le_of_ble_eq_true rfl) (Nat.le_of_ble_eq_true rfl)
  rw [List.length_append] at hi
  by_cases z : i = st.length
  · subst z; simp [upd, List.getD]
  · have hi2 : i < st.length := by simp at hi; omega
    have e9 : (st ++ [(k, m)]).getD i (0, 0) = st.getD i (0, 0) := by simp [List.getD, List.getElem?_append_left hi2]
    rw [e9]; simp only [upd, if_neg z]; exact s_1v i hi2
set_option maxHeartbeats 4000000 in
set_option maxRecDepth 20000 in
/-- Sequence.lay(row, single, cards) -/
theorem c_X4_lay (G : aG) {h : aH} {nx q r r2 n : Nat} {st : aSt} {l l2 : List Nat} (hS : SeqAt h q st) (hst : stOk st) (hR : RowAt h r l) (hR2 : RowAt h r2 l2) (hn : 2 ≤ n ∧ n ≤ 16) (hd : r + 3 ≤ r2 ∧ r2 + 3 ≤ q) : aMet G mX4_lay 7 0 0 [.ref (q), .ref (r), .ref (r2), .int (nI (n))] h nx (pQ (fun v h1 n1 => v = some (.int (bI (seqL st n).isSome)) ∧ n1 = nx ∧ (∀ a, (a < r ∨ r + 3 ≤ a) → (a < r2 ∨ r2 + 3 ≤ a) → h1 a = h a) ∧ (∃ z, RowAt h1 r2 z) ∧ ∃ z, RowAt h1 r z ∧ ∀ y, seqL st n = some y → z = y)) := by
  have hR0 := hR
  refine aMet_of rfl (Nat.le_of_ble_eq_true rfl) ?_
  show aw G mX4_lay [] (aRoom 7 0 0) (aEnd G (pQ (fun v h1 n1 => v = some (.int (bI (seqL st n).isSome)) ∧ n1 = nx ∧ (∀ a, (a < r ∨ r + 3 ≤ a) → (a < r2 ∨ r2 + 3 ≤ a) → h1 a = h a) ∧ (∃ z, RowAt h1 r2 z) ∧ ∃ z, RowAt h1 r z ∧ ∀ y, seqL st n = some y → z = y)) 0 0) 0 0 h nx 0 [(0, .ref (q)), (1, .ref (r)), (2, .ref (r2)), (3, .int (nI (n)))] []
  obtain ⟨u_1f, u_1g, u_11, u_12, u_13, u_1l, u_1v⟩ := hR
  refine aw_aload_n dX4_lay_0 rfl ?_
  refine aw_iload_n dX4_lay_1 rfl ?_
  refine aw_callVQ (As := [.int (nI (n))]) (rest := []) (c_X3_begin G hR0 hn.2) kX3_begin w_488 u_11 rfl rfl rfl rfl (Nat.le_of_ble_eq_true rfl) dX4_lay_2 ⟨Nat.le_of_ble_eq_true rfl, Nat.le_of_ble_eq_true rfl⟩ ⟨Nat.le_of_ble_eq_true rfl, Nat.le_of_ble_eq_true rfl⟩ (fun v_1 h_1 n_1 q_1 z_1 => ?_)
  obtain ⟨rfl, rfl, R_1, o_1⟩ := q_1
  refine aw_ic dX4_lay_5 ic_0 ?_
  refine aw_istore (L' := [(4, .int (nI (0))), (0, .ref (q)), (1, .ref (r)), (2, .ref (r2)), (3, .int (nI (n)))]) dX4_lay_6 (by decide) rfl ?_
  have K : ∀ (d : Nat) (i : Nat) (a : List Nat) (h1 : aH), st.length - i < d → (i ≤ st.length) → (cOk n a) → (RowAt h1 r a) → (∃ z, RowAt h1 r2 z) → (seqF n a (st.drop i) = seqL st n) → (∀ a, (a < r ∨ r + 3 ≤ a) → (a < r2 ∨ r2 + 3 ≤ a) → h1 a = h a) → aw G mX4_lay [] (aRoom 7 0 0) (aEnd G (pQ (fun v h1 n1 => v = some (.int (bI (seqL st n).isSome)) ∧ n1 = n_1 ∧ (∀ a, (a < r ∨ r + 3 ≤ a) → (a < r2 ∨ r2 + 3 ≤ a) → h1 a = h a) ∧ (∃ z, RowAt h1 r2 z) ∧ ∃ z, RowAt h1 r z ∧ ∀ y, seqL st n = some y → z = y)) 0 0) 0 0 h1 n_1 8 [(0, .ref (q)), (1, .ref (r)), (2, .ref (r2)), (3, .int (nI (n))), (4, .int (nI (i)))] [] := by
    intro d
    induction d with
    | zero => intro i a h1 hMd; exact absurd hMd (Nat.not_lt_zero _)
    | succ d ih =>
      intro i a h1 hMd hi hc hA hB hE ho
      obtain ⟨z2, hB⟩ := hB
      have hSa := hS.keep (h1 := h1) (fun a g1 g2 => ho a (by omega) (by omega))
      have hSb := hSa
      have hAb := hA
      have hBb := hB
      obtain ⟨s_1f, s_1g, s_11, s_12, s_13, s_1l, s_1v⟩ := hSb
      refine aw_iload dX4_lay_8 rfl ?_
      refine aw_aload_n dX4_lay_10 rfl ?_
      refine aw_get 2 s_11 rfl rfl (by decide) w_86 rfl dX4_lay_11 ?_
      refine aw_icmp_geN (tgt := 50) (by omega) (by omega) dX4_lay_14 (by decide) (fun c1 => ?_) (fun c1 => ?_)
      · skip
        have e : i = st.length := by omega
        subst e
        rw [List.drop_length] at hE
        have hE2 : some a = seqL st n := hE
        refine aw_ic dX4_lay_50 ic_1 ?_
        exact aw_zreturn dX4_lay_51 rfl (bI_nar true) ⟨_, rfl, by rw [← hE2]; rfl, rfl, ho, ⟨z2, hB⟩, a, hA, fun y hy => (by rw [← hE2] at hy; exact Option.some.inj hy)⟩ (Nat.le_of_ble_eq_true rfl) (Nat.le_of_ble_eq_true rfl)
      · skip
        obtain ⟨k, hk⟩ : ∃ k, k = (st.getD i (0, 0)).1 := ⟨_, rfl⟩
        obtain ⟨m, hm⟩ : ∃ m, m = (st.getD i (0, 0)).2 := ⟨_, rfl⟩
        have hkm := hst.2 i c1
        rw [← hk, ← hm] at hkm
        have hdr : st.drop i = (k, m) :: st.drop (i + 1) := by rw [drop_get c1, hk, hm]
        rw [hdr] at hE
        unfold seqF at hE
        obtain ⟨u_2f, u_2g, u_21, u_22, u_23, u_2l, u_2v⟩ := hBb
        refine aw_aload_n dX4_lay_17 rfl ?_
        refine aw_aload_n dX4_lay_18 rfl ?_
        refine aw_iload dX4_lay_19 rfl ?_
        refine aw_callVR (As := [.int (nI (i))]) (rest := [.ref (r2)]) (c_X4_kindAt G hSa c1) kX4_kindAt w_494 s_11 rfl rfl rfl rfl (Nat.le_of_ble_eq_true rfl) dX4_lay_21 ⟨Nat.le_of_ble_eq_true rfl, Nat.le_of_ble_eq_true rfl⟩ ⟨Nat.le_of_ble_eq_true rfl, Nat.le_of_ble_eq_true rfl⟩ ?_
        rw [← hk]
        refine aw_aload_n dX4_lay_24 rfl ?_
        refine aw_iload dX4_lay_25 rfl ?_
        refine aw_callVR (As := [.int (nI (i))]) (rest := [.int (nI (k)), .ref (r2)]) (c_X4_numberAt G hSa c1) kX4_numberAt w_495 s_11 rfl rfl rfl rfl (Nat.le_of_ble_eq_true rfl) dX4_lay_27 ⟨Nat.le_of_ble_eq_true rfl, Nat.le_of_ble_eq_true rfl⟩ ⟨Nat.le_of_ble_eq_true rfl, Nat.le_of_ble_eq_true rfl⟩ ?_
        rw [← hm]
        refine aw_iload_n dX4_lay_30 rfl ?_
        refine aw_callSQ (As := [.ref (r2), .int (nI (k)), .int (nI (m)), .int (nI (n))]) (rest := []) (c_X5_lay G (nI k) (nI m) hB hn) kX5_lay w_496 rfl rfl (Nat.le_of_ble_eq_true rfl) dX4_lay_31 ⟨Nat.le_of_ble_eq_true rfl, Nat.le_of_ble_eq_true rfl⟩ ⟨Nat.le_of_ble_eq_true rfl, Nat.le_of_ble_eq_true rfl⟩ (fun v_2 h_2 n_2 q_2 z_2 => ?_)
        have tk : (nI k).toInt = (k : Int) := nI_toInt (by omega)
        have tm : (nI m).toInt = (m : Int) := nI_toInt hkm.2
        rw [tk, tm] at q_2
        obtain ⟨rfl, o9, ⟨c2, rfl, rfl⟩ | ⟨c2, rfl, hL⟩⟩ := q_2
        · skip
          refine aw_if_neB (tgt := 39) dX4_lay_34 (by decide) (fun c3 => absurd c3 (by decide)) (fun c3 => ?_)
          have hE3 : none = seqL st n := by rw [if_neg (by rw [c2]; decide)] at hE; exact hE
          refine aw_ic dX4_lay_37 ic_0 ?_
          exact aw_zreturn dX4_lay_38 rfl (bI_nar false) ⟨_, rfl, by rw [← hE3]; rfl, rfl, ho, ⟨z2, hB⟩, a, hA, fun y hy => (by rw [← hE3] at hy; exact absurd hy (by simp))⟩ (Nat.le_of_ble_eq_true rfl) (Nat.le_of_ble_eq_true rfl)
        · skip
          refine aw_if_neB (tgt := 39) dX4_lay_34 (by decide) (fun c3 => ?_) (fun c3 => absurd c3 (by decide))
          have hA2 := hA.off o9 (by omega)
          have hA3 := hA2
          obtain ⟨u_3f, u_3g, u_31, u_32, u_33, u_3l, u_3v⟩ := hA3
          refine aw_aload_n dX4_lay_39 rfl ?_
          refine aw_aload_n dX4_lay_40 rfl ?_
          have hE3 := hE
          rw [if_pos c2] at hE3
          simp only [tk, tm, Int.toNat_natCast] at hL
          refine aw_callVQ (As := [.ref (r2)]) (rest := []) (c_X3_follow G hA2 hL hc (lay_cOk c2) hn.2 (by omega)) kX3_follow w_497 u_31 rfl rfl rfl rfl (Nat.le_of_ble_eq_true rfl) dX4_lay_41 ⟨Nat.le_of_ble_eq_true rfl, Nat.le_of_ble_eq_true rfl⟩ ⟨Nat.le_of_ble_eq_true rfl, Nat.le_of_ble_eq_true rfl⟩ (fun v_3 h_3 n_3 q_3 z_3 => ?_)
          obtain ⟨rfl, rfl, R_2, o_2⟩ := q_3
          refine aw_iincN (k := 1) (L' := [(4, .int (nI (i + 1))), (0, .ref (q)), (1, .ref (r)), (2, .ref (r2)), (3, .int (nI (n)))]) dX4_lay_44 (by decide) rfl (by decide) rfl ?_
          refine aw_goto (tgt := 8) dX4_lay_47 (by decide) ?_
          refine aw_sub (L' := [(0, .ref (q)), (1, .ref (r)), (2, .ref (r2)), (3, .int (nI (n))), (4, .int (nI (i + 1)))]) [1, 2, 3, 4, 0] rfl ?_
          exact ih (i + 1) (fol a (layL k m n)) h_3 (by omega) (by omega) (fol_cOk hc (lay_cOk c2)) R_2 ⟨_, hL.off o_2 (by omega)⟩ hE3 (fun a g1 g2 => (o_2 a g1).trans ((o9 a g2).trans (ho a g1 g2)))
  refine aw_sub (L' := [(0, .ref (q)), (1, .ref (r)), (2, .ref (r2)), (3, .int (nI (n))), (4, .int (nI (0)))]) [1, 2, 3, 4, 0] rfl ?_
  exact K (st.length + 1) 0 (idL n) h_1 (by omega) (Nat.zero_le _) idL_cOk R_1 ⟨l2, hR2.off o_1 (by omega)⟩ rfl (fun a g1 g2 => o_1 a g1)
set_option maxHeartbeats 4000000 in
set_option maxRecDepth 20000 in
/-- Sequence() -/
theorem c_X4_init (G : aG) {h : aH} {r : Nat} (f1 : h r = some (.inr (4, [.null, .null, .int (nI 0)]))) : aMet G mX4_init 1 2 16 [.ref (r)] h (r + 1) (pQ (fun v h1 n1 => v = none ∧ n1 = r + 3 ∧ SeqAt h1 r [] ∧ aOff h h1 r 3)) := by
  refine aMet_of rfl (Nat.le_of_ble_eq_true rfl) ?_
  show aw G mX4_init [] (aRoom 1 2 16) (aEnd G (pQ (fun v h1 n1 => v = none ∧ n1 = r + 3 ∧ SeqAt h1 r [] ∧ aOff h h1 r 3)) 2 16) 0 0 h (r + 1) 0 [(0, .ref (r))] []
  refine aw_aload_n dX4_init_0 rfl ?_
  refine aw_objInit w_83 w_34 w_35 (Nat.le_of_ble_eq_true rfl) (Nat.le_of_ble_eq_true rfl) dX4_init_1 ?_
  refine aw_aload_n dX4_init_4 rfl ?_
  refine aw_bp (v := 8) dX4_init_5 (by decide) ?_
  refine aw_newarrIV (by decide) w_56 (Nat.le_of_ble_eq_true rfl) (Nat.le_of_ble_eq_true rfl) dX4_init_7 (fun h_1 f_1 o_1 => ?_)
  have f_2 := (o_1 r (by omega)).trans f1
  refine aw_nx (show r + 1 + 1 = r + 2 from rfl) ?_
  refine aw_putFV (v := .ref (r + 1)) (ty := (.array .int)) (fs' := [.ref (r + 1), .null, .int (nI (0))]) 0 f_2 rfl rfl (by decide) (by decide +kernel) rfl rfl rfl (Nat.le_of_ble_eq_true rfl) rfl rfl rfl w_84 dX4_init_9 (fun h_2 f_3 o_2 => ?_)
  have f_4 := (o_2 (r + 1) (by omega)).trans f_1
  refine aw_aload_n dX4_init_12 rfl ?_
  refine aw_bp (v := 8) dX4_init_13 (by decide) ?_
  refine aw_newarrIV (by decide) w_56 (Nat.le_of_ble_eq_true rfl) (Nat.le_of_ble_eq_true rfl) dX4_init_15 (fun h_3 f_5 o_3 => ?_)
  have f_6 := (o_3 r (by omega)).trans f_3
  have f_7 := (o_3 (r + 1) (by omega)).trans f_4
  refine aw_nx (show r + 2 + 1 = r + 3 from rfl) ?_
  refine aw_putFV (v := .ref (r + 2)) (ty := (.array .int)) (fs' := [.ref (r + 1), .ref (r + 2), .int (nI (0))]) 1 f_6 rfl rfl (by decide) (by decide +kernel) rfl rfl rfl (Nat.le_of_ble_eq_true rfl) rfl rfl rfl w_85 dX4_init_17 (fun h_4 f_8 o_4 => ?_)
  have f_9 := (o_4 (r + 2) (by omega)).trans f_5
  have f_10 := (o_4 (r + 1) (by omega)).trans f_7
  exact aw_return dX4_init_20 rfl ⟨_, rfl, rfl, rfl, ⟨_, _, f_8, f_10, f_9, Nat.zero_le _, fun i hi => absurd hi (Nat.not_lt_zero _)⟩, fun a ha => ((((o_4 a (by omega)).trans (o_3 a (by omega))).trans (o_2 a (by omega))).trans (o_1 a (by omega)))⟩ (Nat.le_of_ble_eq_true rfl) (Nat.le_of_ble_eq_true rfl)
set_option maxHeartbeats 4000000 in
set_option maxRecDepth 20000 in
/-- Deck() -/
theorem c_X1_init (G : aG) {h : aH} {d : Nat} (f1 : h d = some (.inr (2, [.null, .null, .int (nI 0), .int (nI 0)]))) : aMet G mX1_init 2 44 715 [.ref (d)] h (d + 1) (pQ (fun v h1 n1 => v = none ∧ n1 = d + 45 ∧ DeckAt h1 d [] [] 0 ∧ aOff h h1 d 45)) := by
  refine aMet_of rfl (Nat.le_of_ble_eq_true rfl) ?_
  show aw G mX1_init [] (aRoom 2 44 715) (aEnd G (pQ (fun v h1 n1 => v = none ∧ n1 = d + 45 ∧ DeckAt h1 d [] [] 0 ∧ aOff h h1 d 45)) 44 715) 0 0 h (d + 1) 0 [(0, .ref (d))] []
  refine aw_aload_n dX1_init_0 rfl ?_
  refine aw_objInit w_61 w_34 w_35 (Nat.le_of_ble_eq_true rfl) (Nat.le_of_ble_eq_true rfl) dX1_init_1 ?_
  refine aw_aload_n dX1_init_4 rfl ?_
  refine aw_newV (ci := 3) (fs := [.null, .null, .int (nI (0))]) rfl w_62 w_41 w_2 (by decide +kernel) (Nat.le_of_ble_eq_true rfl) (Nat.le_of_ble_eq_true rfl) dX1_init_5 (fun h_1 f_1 o_1 => ?_)
  have f_2 := (o_1 d (by omega)).trans f1
  refine aw_nx (show d + 1 + 1 = d + 2 from rfl) ?_
  refine aw_dup dX1_init_8 rfl ?_
  refine aw_callINQ (As := []) (rest := [.ref (d + 1), .ref (d)]) (c_X3_init G f_1) kX3_init w_63 rfl rfl (Nat.le_of_ble_eq_true rfl) dX1_init_9 ⟨Nat.le_of_ble_eq_true rfl, Nat.le_of_ble_eq_true rfl⟩ ⟨Nat.le_of_ble_eq_true rfl, Nat.le_of_ble_eq_true rfl⟩ (fun v_1 h_2 n_1 q_1 z_1 => ?_)
  obtain ⟨rfl, rfl, hR, oR⟩ := q_1
  have fd2 := (oR d (by omega)).trans f_2
  refine aw_putFV (v := .ref (d + 1)) (ty := (.object "ShuffleHall$Row")) (fs' := [.ref (d + 1), .null, .int (nI (0)), .int (nI (0))]) 0 fd2 rfl rfl (by decide) (by decide +kernel) rfl rfl rfl (Nat.le_of_ble_eq_true rfl) rfl rfl rfl w_66 dX1_init_12 (fun h_3 f_3 o_2 => ?_)
  refine aw_aload_n dX1_init_15 rfl ?_
  refine aw_bp (v := 40) dX1_init_16 (by decide) ?_
  refine aw_bp (v := 16) dX1_init_18 (by decide) ?_
  refine aw_mnewR (n := 40) (k := 16) (by decide) (by decide) w_64 w_56 (Nat.le_of_ble_eq_true rfl) (Nat.le_of_ble_eq_true rfl) dX1_init_20 ?_
  obtain ⟨hn, hhn⟩ : ∃ z, z = hwR h_3 (d + 1 + 3) 40 16 := ⟨_, rfl⟩
  rw [← hhn]
  have oN : ∀ a, a < d + 4 → hn a = h_3 a := fun a ha => by rw [hhn]; unfold hwR; rw [if_neg (by omega), if_neg (by omega)]
  have oN2 : ∀ a, d + 45 ≤ a → hn a = h_3 a := fun a ha => by rw [hhn]; unfold hwR; rw [if_neg (by omega), if_neg (by omega)]
  have hO : hn (d + 4) = some (.inl (7, 40, .inr (.inr (.inr (.inr (f40 d)))))) := by
    rw [hhn]; unfold hwR; rw [if_neg (by omega), if_pos (by omega)]
    rw [show (fun i => if i < 40 then some (d + 1 + 3 + 1 + i) else none) = f40 d from rfl]
  have hK : ∀ i, i < 40 → hn (d + 5 + i) = some (.inl (0, 16, .inl (fun _ => 0))) := fun i hi => by rw [hhn]; unfold hwR; rw [if_pos (by omega)]
  have fd4 := (oN d (by omega)).trans f_3
  refine aw_putFV (v := .ref (d + 1 + 3)) (ty := (.array (.array .int))) (fs' := [.ref (d + 1), .ref (d + 1 + 3), .int (nI (0)), .int (nI (0))]) 1 fd4 rfl rfl (by decide) (by decide +kernel) rfl rfl rfl (Nat.le_of_ble_eq_true rfl) rfl rfl rfl w_67 dX1_init_24 (fun h_4 f_4 o_3 => ?_)
  refine aw_return dX1_init_27 rfl ⟨_, rfl, rfl, rfl, ⟨f_4, ((hR.keep (fun a g1 g2 => o_2 a (by omega))).keep (fun a g1 g2 => oN a (by omega))).keep (fun a g1 g2 => o_3 a (by omega)), (o_3 _ (by omega)).trans hO, Nat.zero_le _, Nat.zero_le _, fun i hi => ⟨[], _, (o_3 _ (by omega)).trans (hK i hi), fun j hj => absurd hj (Nat.not_lt_zero _)⟩, fun j hj => absurd hj (Nat.not_lt_zero _)⟩, fun a ha => ?_⟩ (Nat.le_of_ble_eq_true rfl) (Nat.le_of_ble_eq_true rfl)
  have e9 : hn a = h_3 a := by rcases ha with q | q; exact oN a (by omega); exact oN2 a q
  exact (o_3 a (by omega)).trans (e9.trans ((o_2 a (by omega)).trans ((oR a (by omega)).trans (o_1 a (by omega)))))
