set_option maxHeartbeats 4000000 in
set_option maxRecDepth 20000 in
/-- size() -/
theorem c_X3_size (G : aG) {h : aH} {nx r : Nat} {l : List Nat} (hR : RowAt h r l) : aMet G mX3_size 0 0 0 [.ref (r)] h nx (pI (nI l.length) h nx) := by
  obtain ⟨f, g, f1, f2, f3, hl, hv⟩ := hR
  refine aMet_of rfl (Nat.le_of_ble_eq_true rfl) ?_
  show aw G mX3_size [] (aRoom 0 0 0) (aEnd G (pI (nI l.length) h nx) 0 0) 0 0 h nx 0 [(0, .ref (r))] []
  refine aw_aload_n dX3_size_0 rfl ?_
  refine aw_get 2 f1 rfl rfl (by decide) w_48 rfl dX3_size_1 ?_
  exact aw_ireturn dX3_size_4 rfl ⟨rfl, rfl, rfl⟩ (Nat.le_of_ble_eq_true rfl) (Nat.le_of_ble_eq_true rfl)
set_option maxHeartbeats 4000000 in
set_option maxRecDepth 20000 in
/-- has(x) -/
theorem c_X3_has (G : aG) {h : aH} {nx r : Nat} {l : List Nat} (x : Int32) (hR : RowAt h r l) : aMet G mX3_has 0 0 0 [.ref (r), .int (x)] h nx (pI (bI (decide (0 ≤ x ∧ x < nI l.length))) h nx) := by
  obtain ⟨f, g, f1, f2, f3, hl, hv⟩ := hR
  refine aMet_of rfl (Nat.le_of_ble_eq_true rfl) ?_
  show aw G mX3_has [] (aRoom 0 0 0) (aEnd G (pI (bI (decide (0 ≤ x ∧ x < nI l.length))) h nx) 0 0) 0 0 h nx 0 [(0, .ref (r)), (1, .int (x))] []
  refine aw_iload_n dX3_has_0 rfl ?_
  refine aw_if_lt (tgt := 25) dX3_has_1 (by decide) (fun c1 => ?_) (fun c1 => ?_)
  · skip
    refine aw_ic dX3_has_25 ic_0 ?_
    exact aw_zreturn dX3_has_26 rfl (bI_nar false) ⟨r_f (decide_eq_false (fun q => absurd c1 (Int32.not_lt.mpr q.1))), rfl, rfl⟩ (Nat.le_of_ble_eq_true rfl) (Nat.le_of_ble_eq_true rfl)
  · skip
    refine aw_iload_n dX3_has_4 rfl ?_
    refine aw_aload_n dX3_has_5 rfl ?_
    refine aw_get 2 f1 rfl rfl (by decide) w_48 rfl dX3_has_6 ?_
    refine aw_icmp_ge (tgt := 25) dX3_has_9 (by decide) (fun c2 => ?_) (fun c2 => ?_)
    · skip
      refine aw_ic dX3_has_25 ic_0 ?_
      exact aw_zreturn dX3_has_26 rfl (bI_nar false) ⟨r_f (decide_eq_false (fun q => absurd q.2 (Int32.not_lt.mpr c2))), rfl, rfl⟩ (Nat.le_of_ble_eq_true rfl) (Nat.le_of_ble_eq_true rfl)
    · skip
      refine aw_iload_n dX3_has_12 rfl ?_
      refine aw_aload_n dX3_has_13 rfl ?_
      refine aw_get 0 f1 rfl rfl (by decide) w_46 rfl dX3_has_14 ?_
      refine aw_lenI f2 dX3_has_17 ?_
      refine aw_icmp_ge (tgt := 25) dX3_has_18 (by decide) (fun c3 => absurd c3 (Int32.not_le.mpr (Int32.lt_of_lt_of_le (Int32.not_le.mp c2) (nI_le hl (by decide))))) (fun c3 => ?_)
      refine aw_ic dX3_has_21 ic_1 ?_
      refine aw_goto (tgt := 26) dX3_has_22 (by decide) ?_
      exact aw_zreturn dX3_has_26 rfl (bI_nar true) ⟨r_t (decide_eq_true ⟨Int32.not_lt.mp c1, Int32.not_le.mp c2⟩), rfl, rfl⟩ (Nat.le_of_ble_eq_true rfl) (Nat.le_of_ble_eq_true rfl)
set_option maxHeartbeats 4000000 in
set_option maxRecDepth 20000 in
/-- numberAt(i), within -/
theorem c_X3_numberAt (G : aG) {h : aH} {nx r : Nat} {l : List Nat} {i : Nat} (hR : RowAt h r l) (hi : i < l.length) (hc : l.getD i 0 < 2 ^ 31) : aMet G mX3_numberAt 1 0 0 [.ref (r), .int (nI (i))] h nx (pI (nI (l.getD i 0 / 2)) h nx) := by
  have hR0 := hR
  obtain ⟨f, g, f1, f2, f3, hl, hv⟩ := hR
  have hh : decide (0 ≤ nI i ∧ nI i < nI l.length) = true := decide_eq_true ⟨nI_pos' (by omega), nI_lt hi (by omega)⟩
  refine aMet_of rfl (Nat.le_of_ble_eq_true rfl) ?_
  show aw G mX3_numberAt [] (aRoom 1 0 0) (aEnd G (pI (nI (l.getD i 0 / 2)) h nx) 0 0) 0 0 h nx 0 [(0, .ref (r)), (1, .int (nI (i)))] []
  refine aw_aload_n dX3_numberAt_0 rfl ?_
  refine aw_iload_n dX3_numberAt_1 rfl ?_
  refine aw_callVR (As := [.int (nI (i))]) (rest := []) (c_X3_has G (nI i) hR0) kX3_has w_234 f1 rfl rfl rfl rfl (Nat.le_of_ble_eq_true rfl) dX3_numberAt_2 ⟨Nat.le_of_ble_eq_true rfl, Nat.le_of_ble_eq_true rfl⟩ ⟨Nat.le_of_ble_eq_true rfl, Nat.le_of_ble_eq_true rfl⟩ ?_
  refine aw_if_eqB (tgt := 19) dX3_numberAt_5 (by decide) (fun c1 => absurd c1 (by rw [hh]; decide)) (fun c1 => ?_)
  refine aw_aload_n dX3_numberAt_8 rfl ?_
  refine aw_get 0 f1 rfl rfl (by decide) w_46 rfl dX3_numberAt_9 ?_
  refine aw_iload_n dX3_numberAt_12 rfl ?_
  refine aw_iaload f2 (by omega) (by omega) dX3_numberAt_13 ?_
  refine aw_ic dX3_numberAt_14 ic_1 ?_
  refine aw_ishr dX3_numberAt_15 ?_
  refine aw_goto (tgt := 20) dX3_numberAt_16 (by decide) ?_
  rw [hv i hi]
  refine aw_top (show (nI (l.getD i 0) >>> (nI 1 &&& 31)) = (nI (l.getD i 0 / 2)) from n_half hc) ?_
  exact aw_ireturn dX3_numberAt_20 rfl ⟨rfl, rfl, rfl⟩ (Nat.le_of_ble_eq_true rfl) (Nat.le_of_ble_eq_true rfl)
set_option maxHeartbeats 4000000 in
set_option maxRecDepth 20000 in
/-- isTurnedAt(i), within -/
theorem c_X3_isTurnedAt (G : aG) {h : aH} {nx r : Nat} {l : List Nat} {i : Nat} (hR : RowAt h r l) (hi : i < l.length) (hc : l.getD i 0 < 2 ^ 31) : aMet G mX3_isTurnedAt 1 0 0 [.ref (r), .int (nI (i))] h nx (pI (bI (decide (l.getD i 0 % 2 = 1))) h nx) := by
  have hR0 := hR
  obtain ⟨f, g, f1, f2, f3, hl, hv⟩ := hR
  have hh : decide (0 ≤ nI i ∧ nI i < nI l.length) = true := decide_eq_true ⟨nI_pos' (by omega), nI_lt hi (by omega)⟩
  refine aMet_of rfl (Nat.le_of_ble_eq_true rfl) ?_
  show aw G mX3_isTurnedAt [] (aRoom 1 0 0) (aEnd G (pI (bI (decide (l.getD i 0 % 2 = 1))) h nx) 0 0) 0 0 h nx 0 [(0, .ref (r)), (1, .int (nI (i)))] []
  refine aw_aload_n dX3_isTurnedAt_0 rfl ?_
  refine aw_iload_n dX3_isTurnedAt_1 rfl ?_
  refine aw_callVR (As := [.int (nI (i))]) (rest := []) (c_X3_has G (nI i) hR0) kX3_has w_234 f1 rfl rfl rfl rfl (Nat.le_of_ble_eq_true rfl) dX3_isTurnedAt_2 ⟨Nat.le_of_ble_eq_true rfl, Nat.le_of_ble_eq_true rfl⟩ ⟨Nat.le_of_ble_eq_true rfl, Nat.le_of_ble_eq_true rfl⟩ ?_
  refine aw_if_eqB (tgt := 23) dX3_isTurnedAt_5 (by decide) (fun c1 => absurd c1 (by rw [hh]; decide)) (fun c1 => ?_)
  refine aw_aload_n dX3_isTurnedAt_8 rfl ?_
  refine aw_get 0 f1 rfl rfl (by decide) w_46 rfl dX3_isTurnedAt_9 ?_
  refine aw_iload_n dX3_isTurnedAt_12 rfl ?_
  refine aw_iaload f2 (by omega) (by omega) dX3_isTurnedAt_13 ?_
  refine aw_ic dX3_isTurnedAt_14 ic_1 ?_
  refine aw_iand dX3_isTurnedAt_15 ?_
  rw [hv i hi]
  refine aw_top (show (nI (l.getD i 0) &&& nI 1) = (nI (l.getD i 0 % 2)) from n_odd hc) ?_
  refine aw_if_eqN (tgt := 23) (by omega) dX3_isTurnedAt_16 (by decide) (fun c2 => ?_) (fun c2 => ?_)
  · skip
    refine aw_ic dX3_isTurnedAt_23 ic_0 ?_
    exact aw_zreturn dX3_isTurnedAt_24 rfl (bI_nar false) ⟨r_f (decide_eq_false (by omega)), rfl, rfl⟩ (Nat.le_of_ble_eq_true rfl) (Nat.le_of_ble_eq_true rfl)
  · skip
    refine aw_ic dX3_isTurnedAt_19 ic_1 ?_
    refine aw_goto (tgt := 24) dX3_isTurnedAt_20 (by decide) ?_
    exact aw_zreturn dX3_isTurnedAt_24 rfl (bI_nar true) ⟨r_t (decide_eq_true (by omega)), rfl, rfl⟩ (Nat.le_of_ble_eq_true rfl) (Nat.le_of_ble_eq_true rfl)
set_option maxHeartbeats 4000000 in
set_option maxRecDepth 20000 in
/-- clear() -/
theorem c_X3_clear (G : aG) {h : aH} {nx r : Nat} {l : List Nat} (hR : RowAt h r l) : aMet G mX3_clear 0 0 0 [.ref (r)] h nx (pQ (fun v h1 n1 => v = none ∧ n1 = nx ∧ RowAt h1 r [] ∧ aOff h h1 r 3)) := by
  obtain ⟨f, g, f1, f2, f3, hl, hv⟩ := hR
  refine aMet_of rfl (Nat.le_of_ble_eq_true rfl) ?_
  show aw G mX3_clear [] (aRoom 0 0 0) (aEnd G (pQ (fun v h1 n1 => v = none ∧ n1 = nx ∧ RowAt h1 r [] ∧ aOff h h1 r 3)) 0 0) 0 0 h nx 0 [(0, .ref (r))] []
  refine aw_aload_n dX3_clear_0 rfl ?_
  refine aw_ic dX3_clear_1 ic_0 ?_
  refine aw_putV (v := .int (nI (0))) (ty := .int) (fs' := [.ref (r + 1), .ref (r + 2), .int (nI (0))]) 2 f1 rfl rfl (by decide) (by decide +kernel) rfl rfl rfl (Nat.le_of_ble_eq_true rfl) rfl w_48 dX3_clear_2 (fun h_1 f_1 o_1 => ?_)
  have f_2 := (o_1 (r + 1) (by omega)).trans f2
  have f_3 := (o_1 (r + 2) (by omega)).trans f3
  exact aw_return dX3_clear_5 rfl ⟨_, rfl, rfl, rfl, ⟨f, g, f_1, f_2, f_3, Nat.zero_le _, fun i hi => absurd hi (Nat.not_lt_zero _)⟩, fun a ha => o_1 a (by omega)⟩ (Nat.le_of_ble_eq_true rfl) (Nat.le_of_ble_eq_true rfl)
set_option maxHeartbeats 4000000 in
set_option maxRecDepth 20000 in
/-- addLying(c), where there is room -/
theorem c_X3_addLying (G : aG) {h : aH} {nx r : Nat} {l : List Nat} {c : Nat} (hR : RowAt h r l) (hn : l.length < 16) : aMet G mX3_addLying 0 0 0 [.ref (r), .int (nI (c))] h nx (pQ (fun v h1 n1 => v = none ∧ n1 = nx ∧ RowAt h1 r (l ++ [c]) ∧ aOff h h1 r 3)) := by
  obtain ⟨f, g, f1, f2, f3, hl, hv⟩ := hR
  refine aMet_of rfl (Nat.le_of_ble_eq_true rfl) ?_
  show aw G mX3_addLying [] (aRoom 0 0 0) (aEnd G (pQ (fun v h1 n1 => v = none ∧ n1 = nx ∧ RowAt h1 r (l ++ [c]) ∧ aOff h h1 r 3)) 0 0) 0 0 h nx 0 [(0, .ref (r)), (1, .int (nI (c)))] []
  refine aw_aload_n dX3_addLying_0 rfl ?_
  refine aw_get 2 f1 rfl rfl (by decide) w_48 rfl dX3_addLying_1 ?_
  refine aw_aload_n dX3_addLying_4 rfl ?_
  refine aw_get 0 f1 rfl rfl (by decide) w_46 rfl dX3_addLying_5 ?_
  refine aw_lenI f2 dX3_addLying_8 ?_
  refine aw_icmp_geN (tgt := 32) (by omega) (by omega) dX3_addLying_9 (by decide) (fun c1 => absurd c1 (by omega)) (fun c1 => ?_)
  refine aw_aload_n dX3_addLying_12 rfl ?_
  refine aw_get 0 f1 rfl rfl (by decide) w_46 rfl dX3_addLying_13 ?_
  refine aw_aload_n dX3_addLying_16 rfl ?_
  refine aw_get 2 f1 rfl rfl (by decide) w_48 rfl dX3_addLying_17 ?_
  refine aw_iload_n dX3_addLying_20 rfl ?_
  refine aw_iastoreV f2 (by omega) (by omega) dX3_addLying_21 (fun h_1 f_1 o_1 => ?_)
  have f_2 := (o_1 r (by omega)).trans f1
  have f_3 := (o_1 (r + 2) (by omega)).trans f3
  refine aw_aload_n dX3_addLying_22 rfl ?_
  refine aw_dup dX3_addLying_23 rfl ?_
  refine aw_get 2 f_2 rfl rfl (by decide) w_48 rfl dX3_addLying_24 ?_
  refine aw_ic dX3_addLying_27 ic_1 ?_
  refine aw_iaddN dX3_addLying_28 ?_
  refine aw_putV (v := .int (nI (l.length + 1))) (ty := .int) (fs' := [.ref (r + 1), .ref (r + 2), .int (nI (l.length + 1))]) 2 f_2 rfl rfl (by decide) (by decide +kernel) rfl rfl rfl (Nat.le_of_ble_eq_true rfl) rfl w_48 dX3_addLying_29 (fun h_2 f_4 o_2 => ?_)
  have f_5 := (o_2 (r + 1) (by omega)).trans f_1
  have f_6 := (o_2 (r + 2) (by omega)).trans f_3
  refine aw_return dX3_addLying_32 rfl ⟨_, rfl, rfl, rfl, ⟨_, g, by rw [List.length_append]; exact f_4, f_5, f_6, by rw [List.length_append]; exact hn, fun i hi => ?_⟩, fun a ha => (o_2 a (by omega)).trans (o_1 a (by omega))⟩ (Nat.le_of_ble_eq_true rfl) (Nat.le_of_ble_eq_true rfl)
  rw [List.length_append] at hi
  by_cases q : i = l.length
  · rw [q, gD_r]; simp [upd]
  · have hi2 : i < l.length := by simp at hi; omega
    rw [gD_l hi2]; simp only [upd, if_neg q]; exact hv i hi2
set_option maxHeartbeats 4000000 in
set_option maxRecDepth 20000 in
/-- add(a), where there is room -/
theorem c_X3_add (G : aG) {h : aH} {nx r : Nat} {l : List Nat} {a : Nat} (hR : RowAt h r l) (hn : l.length < 16) : aMet G mX3_add 1 0 0 [.ref (r), .int (nI (a))] h nx (pQ (fun v h1 n1 => v = none ∧ n1 = nx ∧ RowAt h1 r (l ++ [2 * a]) ∧ aOff h h1 r 3)) := by
  have hR0 := hR
  obtain ⟨f, g, f1, f2, f3, hl, hv⟩ := hR
  refine aMet_of rfl (Nat.le_of_ble_eq_true rfl) ?_
  show aw G mX3_add [] (aRoom 1 0 0) (aEnd G (pQ (fun v h1 n1 => v = none ∧ n1 = nx ∧ RowAt h1 r (l ++ [2 * a]) ∧ aOff h h1 r 3)) 0 0) 0 0 h nx 0 [(0, .ref (r)), (1, .int (nI (a)))] []
  refine aw_aload_n dX3_add_0 rfl ?_
  refine aw_ic dX3_add_1 ic_2 ?_
  refine aw_iload_n dX3_add_2 rfl ?_
  refine aw_imulN dX3_add_3 ?_
  refine aw_callVQ (As := [.int (nI (2 * a))]) (rest := []) (c_X3_addLying G hR0 hn) kX3_addLying w_387 f1 rfl rfl rfl rfl (Nat.le_of_ble_eq_true rfl) dX3_add_4 ⟨Nat.le_of_ble_eq_true rfl, Nat.le_of_ble_eq_true rfl⟩ ⟨Nat.le_of_ble_eq_true rfl, Nat.le_of_ble_eq_true rfl⟩ (fun v_1 h_1 n_1 q_1 z_1 => ?_)
  obtain ⟨rfl, rfl, R_1, o_1⟩ := q_1
  exact aw_return dX3_add_7 rfl ⟨_, rfl, rfl, rfl, R_1, o_1⟩ (Nat.le_of_ble_eq_true rfl) (Nat.le_of_ble_eq_true rfl)
set_option maxHeartbeats 4000000 in
set_option maxRecDepth 20000 in
/-- addTurned(a), where there is room -/
theorem c_X3_addTurned (G : aG) {h : aH} {nx r : Nat} {l : List Nat} {a : Nat} (hR : RowAt h r l) (hn : l.length < 16) : aMet G mX3_addTurned 1 0 0 [.ref (r), .int (nI (a))] h nx (pQ (fun v h1 n1 => v = none ∧ n1 = nx ∧ RowAt h1 r (l ++ [2 * a + 1]) ∧ aOff h h1 r 3)) := by
  have hR0 := hR
  obtain ⟨f, g, f1, f2, f3, hl, hv⟩ := hR
  refine aMet_of rfl (Nat.le_of_ble_eq_true rfl) ?_
  show aw G mX3_addTurned [] (aRoom 1 0 0) (aEnd G (pQ (fun v h1 n1 => v = none ∧ n1 = nx ∧ RowAt h1 r (l ++ [2 * a + 1]) ∧ aOff h h1 r 3)) 0 0) 0 0 h nx 0 [(0, .ref (r)), (1, .int (nI (a)))] []
  refine aw_aload_n dX3_addTurned_0 rfl ?_
  refine aw_ic dX3_addTurned_1 ic_2 ?_
  refine aw_iload_n dX3_addTurned_2 rfl ?_
  refine aw_imulN dX3_addTurned_3 ?_
  refine aw_ic dX3_addTurned_4 ic_1 ?_
  refine aw_iaddN dX3_addTurned_5 ?_
  refine aw_callVQ (As := [.int (nI ((2 * a) + 1))]) (rest := []) (c_X3_addLying G hR0 hn) kX3_addLying w_387 f1 rfl rfl rfl rfl (Nat.le_of_ble_eq_true rfl) dX3_addTurned_6 ⟨Nat.le_of_ble_eq_true rfl, Nat.le_of_ble_eq_true rfl⟩ ⟨Nat.le_of_ble_eq_true rfl, Nat.le_of_ble_eq_true rfl⟩ (fun v_1 h_1 n_1 q_1 z_1 => ?_)
  obtain ⟨rfl, rfl, R_1, o_1⟩ := q_1
  exact aw_return dX3_addTurned_9 rfl ⟨_, rfl, rfl, rfl, R_1, o_1⟩ (Nat.le_of_ble_eq_true rfl) (Nat.le_of_ble_eq_true rfl)
set_option maxHeartbeats 4000000 in
set_option maxRecDepth 20000 in
/-- addSpan(a, b), where there is room -/
theorem c_X3_addSpan (G : aG) {h : aH} {nx r : Nat} {l : List Nat} {a b : Nat} (hR : RowAt h r l) (hab : a ≤ b) (hn : l.length + (b - a) ≤ 16) (hb : b ≤ 16) : aMet G mX3_addSpan 2 0 0 [.ref (r), .int (nI (a)), .int (nI (b))] h nx (pQ (fun v h1 n1 => v = none ∧ n1 = nx ∧ RowAt h1 r (l ++ (List.range (b - a)).map (fun i => 2 * (a + i))) ∧ aOff h h1 r 3)) := by
  refine aMet_of rfl (Nat.le_of_ble_eq_true rfl) ?_
  show aw G mX3_addSpan [] (aRoom 2 0 0) (aEnd G (pQ (fun v h1 n1 => v = none ∧ n1 = nx ∧ RowAt h1 r (l ++ (List.range (b - a)).map (fun i => 2 * (a + i))) ∧ aOff h h1 r 3)) 0 0) 0 0 h nx 0 [(0, .ref (r)), (1, .int (nI (a))), (2, .int (nI (b)))] []
  refine aw_iload_n dX3_addSpan_0 rfl ?_
  refine aw_istore_n (L' := [(3, .int (nI (a))), (0, .ref (r)), (1, .int (nI (a))), (2, .int (nI (b)))]) dX3_addSpan_1 (by decide) rfl ?_
  have K : ∀ (d : Nat) (i : Nat) (h1 : aH), b - i < d → (a ≤ i ∧ i ≤ b) → (RowAt h1 r (l ++ (List.range (i - a)).map (fun i => 2 * (a + i)))) → (aOff h h1 r 3) → aw G mX3_addSpan [] (aRoom 2 0 0) (aEnd G (pQ (fun v h1 n1 => v = none ∧ n1 = nx ∧ RowAt h1 r (l ++ (List.range (b - a)).map (fun i => 2 * (a + i))) ∧ aOff h h1 r 3)) 0 0) 0 0 h1 nx 2 [(0, .ref (r)), (1, .int (nI (a))), (2, .int (nI (b))), (3, .int (nI (i)))] [] := by
    intro d
    induction d with
    | zero => intro i h1 hMd; exact absurd hMd (Nat.not_lt_zero _)
    | succ d ih =>
      intro i h1 hMd hi hR1 ho
      have hR0 := hR1
      have hlen : (l ++ (List.range (i - a)).map (fun i => 2 * (a + i))).length = l.length + (i - a) := by simp
      obtain ⟨u_1f, u_1g, u_11, u_12, u_13, u_1l, u_1v⟩ := hR1
      refine aw_iload_n dX3_addSpan_2 rfl ?_
      refine aw_iload_n dX3_addSpan_3 rfl ?_
      refine aw_icmp_geN (tgt := 20) (by omega) (by omega) dX3_addSpan_4 (by decide) (fun c1 => ?_) (fun c1 => ?_)
      · skip
        have e : i = b := by omega
        subst e
        exact aw_return dX3_addSpan_20 rfl ⟨_, rfl, rfl, rfl, hR0, ho⟩ (Nat.le_of_ble_eq_true rfl) (Nat.le_of_ble_eq_true rfl)
      · skip
        refine aw_aload_n dX3_addSpan_7 rfl ?_
        refine aw_ic dX3_addSpan_8 ic_2 ?_
        refine aw_iload_n dX3_addSpan_9 rfl ?_
        refine aw_imulN dX3_addSpan_10 ?_
        refine aw_callVQ (As := [.int (nI (2 * i))]) (rest := []) (c_X3_addLying G hR0 (by rw [hlen]; omega)) kX3_addLying w_387 u_11 rfl rfl rfl rfl (Nat.le_of_ble_eq_true rfl) dX3_addSpan_11 ⟨Nat.le_of_ble_eq_true rfl, Nat.le_of_ble_eq_true rfl⟩ ⟨Nat.le_of_ble_eq_true rfl, Nat.le_of_ble_eq_true rfl⟩ (fun v_1 h_1 n_1 q_1 z_1 => ?_)
        obtain ⟨rfl, rfl, R_1, o_1⟩ := q_1
        refine aw_iincN (k := 1) (L' := [(3, .int (nI (i + 1))), (0, .ref (r)), (1, .int (nI (a))), (2, .int (nI (b)))]) dX3_addSpan_14 (by decide) rfl (by decide) rfl ?_
        refine aw_goto (tgt := 2) dX3_addSpan_17 (by decide) ?_
        refine aw_sub (L' := [(0, .ref (r)), (1, .int (nI (a))), (2, .int (nI (b))), (3, .int (nI (i + 1)))]) [1, 2, 3, 0] rfl ?_
        exact ih (i + 1) h_1 (by omega) ⟨by omega, by omega⟩ (by rw [show i + 1 - a = (i - a) + 1 by omega, List.range_succ, List.map_append, ← List.append_assoc]; rw [show [2 * i] = List.map (fun i => 2 * (a + i)) [i - a] by simp; omega] at R_1; exact R_1) (ho.tr o_1)
  refine aw_sub (L' := [(0, .ref (r)), (1, .int (nI (a))), (2, .int (nI (b))), (3, .int (nI (a)))]) [1, 2, 3, 0] rfl ?_
  exact K (b - a + 1) a h (by omega) ⟨Nat.le_refl _, hab⟩ (by rw [Nat.sub_self]; simpa using hR) aOff.rf
set_option maxHeartbeats 4000000 in
set_option maxRecDepth 20000 in
/-- begin(n) -/
theorem c_X3_begin (G : aG) {h : aH} {nx r : Nat} {l : List Nat} {n : Nat} (hR : RowAt h r l) (hn : n ≤ 16) : aMet G mX3_begin 3 0 0 [.ref (r), .int (nI (n))] h nx (pQ (fun v h1 n1 => v = none ∧ n1 = nx ∧ RowAt h1 r ((List.range n).map (fun i => 2 * i)) ∧ aOff h h1 r 3)) := by
  have hR0 := hR
  obtain ⟨f, g, f1, f2, f3, hl, hv⟩ := hR
  refine aMet_of rfl (Nat.le_of_ble_eq_true rfl) ?_
  show aw G mX3_begin [] (aRoom 3 0 0) (aEnd G (pQ (fun v h1 n1 => v = none ∧ n1 = nx ∧ RowAt h1 r ((List.range n).map (fun i => 2 * i)) ∧ aOff h h1 r 3)) 0 0) 0 0 h nx 0 [(0, .ref (r)), (1, .int (nI (n)))] []
  refine aw_aload_n dX3_begin_0 rfl ?_
  refine aw_callVQ (As := []) (rest := []) (c_X3_clear G hR0) kX3_clear w_492 f1 rfl rfl rfl rfl (Nat.le_of_ble_eq_true rfl) dX3_begin_1 ⟨Nat.le_of_ble_eq_true rfl, Nat.le_of_ble_eq_true rfl⟩ ⟨Nat.le_of_ble_eq_true rfl, Nat.le_of_ble_eq_true rfl⟩ (fun v_1 h_1 n_1 q_1 z_1 => ?_)
  obtain ⟨rfl, rfl, R_1, o_1⟩ := q_1
  have R_1b := R_1
  obtain ⟨u_1f, u_1g, u_11, u_12, u_13, u_1l, u_1v⟩ := R_1b
  refine aw_aload_n dX3_begin_4 rfl ?_
  refine aw_ic dX3_begin_5 ic_0 ?_
  refine aw_iload_n dX3_begin_6 rfl ?_
  refine aw_callVQ (As := [.int (nI (0)), .int (nI (n))]) (rest := []) (c_X3_addSpan G R_1 (Nat.zero_le n) (by simpa using hn) hn) kX3_addSpan w_493 u_11 rfl rfl rfl rfl (Nat.le_of_ble_eq_true rfl) dX3_begin_7 ⟨Nat.le_of_ble_eq_true rfl, Nat.le_of_ble_eq_true rfl⟩ ⟨Nat.le_of_ble_eq_true rfl, Nat.le_of_ble_eq_true rfl⟩ (fun v_2 h_2 n_2 q_2 z_2 => ?_)
  obtain ⟨rfl, rfl, R_2, o_2⟩ := q_2
  exact aw_return dX3_begin_10 rfl ⟨_, rfl, rfl, rfl, by simpa using R_2, o_1.tr o_2⟩ (Nat.le_of_ble_eq_true rfl) (Nat.le_of_ble_eq_true rfl)
set_option maxHeartbeats 4000000 in
set_option maxRecDepth 20000 in
/-- placeOf(x) of a number that is there -/
theorem c_X3_placeOf (G : aG) {h : aH} {nx r : Nat} {l : List Nat} {n x : Nat} (hR : RowAt h r l) (hc : cOk n l) (hn : n ≤ 16) (hx : ∃ j, j < l.length ∧ l.getD j 0 / 2 = x) : aMet G mX3_placeOf 2 0 0 [.ref (r), .int (nI (x))] h nx (pI (nI (ixOf l x)) h nx) := by
  have hR0 := hR
  obtain ⟨f, g, f1, f2, f3, hl, hv⟩ := hR
  obtain ⟨j, hj, hjx⟩ := hx
  have hxn := hc.2 j hj
  have hln := hc.1
  refine aMet_of rfl (Nat.le_of_ble_eq_true rfl) ?_
  show aw G mX3_placeOf [] (aRoom 2 0 0) (aEnd G (pI (nI (ixOf l x)) h nx) 0 0) 0 0 h nx 0 [(0, .ref (r)), (1, .int (nI (x)))] []
  refine aw_ic dX3_placeOf_0 ic_0 ?_
  refine aw_istore_n (L' := [(2, .int (nI (0))), (0, .ref (r)), (1, .int (nI (x)))]) dX3_placeOf_1 (by decide) rfl ?_
  have K : ∀ (d : Nat) (i : Nat), l.length - i < d → (i ≤ l.length) → (∀ k, k < i → l.getD k 0 / 2 ≠ x) → aw G mX3_placeOf [] (aRoom 2 0 0) (aEnd G (pI (nI (ixOf l x)) h nx) 0 0) 0 0 h nx 2 [(0, .ref (r)), (1, .int (nI (x))), (2, .int (nI (i)))] [] := by
    intro d
    induction d with
    | zero => intro i hMd; exact absurd hMd (Nat.not_lt_zero _)
    | succ d ih =>
      intro i hMd hi ha
      refine aw_iload_n dX3_placeOf_2 rfl ?_
      refine aw_aload_n dX3_placeOf_3 rfl ?_
      refine aw_get 2 f1 rfl rfl (by decide) w_48 rfl dX3_placeOf_4 ?_
      refine aw_icmp_geN (tgt := 27) (by omega) (by omega) dX3_placeOf_7 (by decide) (fun c1 => absurd c1 (fun q => ha j (by omega) hjx)) (fun c1 => ?_)
      refine aw_aload_n dX3_placeOf_10 rfl ?_
      refine aw_iload_n dX3_placeOf_11 rfl ?_
      have hci := hc.2 i c1
      refine aw_callVR (As := [.int (nI (i))]) (rest := []) (c_X3_numberAt G hR0 c1 (by omega)) kX3_numberAt w_307 f1 rfl rfl rfl rfl (Nat.le_of_ble_eq_true rfl) dX3_placeOf_12 ⟨Nat.le_of_ble_eq_true rfl, Nat.le_of_ble_eq_true rfl⟩ ⟨Nat.le_of_ble_eq_true rfl, Nat.le_of_ble_eq_true rfl⟩ ?_
      refine aw_iload_n dX3_placeOf_15 rfl ?_
      refine aw_icmp_neN (tgt := 21) (by omega) (by omega) dX3_placeOf_16 (by decide) (fun c2 => ?_) (fun c2 => ?_)
      · skip
        refine aw_iincN (k := 1) (L' := [(2, .int (nI (i + 1))), (0, .ref (r)), (1, .int (nI (x)))]) dX3_placeOf_21 (by decide) rfl (by decide) rfl ?_
        refine aw_goto (tgt := 2) dX3_placeOf_24 (by decide) ?_
        refine aw_sub (L' := [(0, .ref (r)), (1, .int (nI (x))), (2, .int (nI (i + 1)))]) [1, 2, 0] rfl ?_
        exact ih (i + 1) (by omega) (by omega) (fun k hk => by rcases Nat.lt_or_ge k i with q | q; exact ha k q; rw [show k = i by omega]; exact c2)
      · skip
        refine aw_iload_n dX3_placeOf_19 rfl ?_
        exact aw_ireturn dX3_placeOf_20 rfl ⟨r_n (ixOf_eq c1 c2 ha).symm, rfl, rfl⟩ (Nat.le_of_ble_eq_true rfl) (Nat.le_of_ble_eq_true rfl)
  refine aw_sub (L' := [(0, .ref (r)), (1, .int (nI (x))), (2, .int (nI (0)))]) [1, 2, 0] rfl ?_
  exact K (l.length + 1) 0 (by omega) (Nat.zero_le _) (fun k hk => absurd hk (Nat.not_lt_zero _))
set_option maxHeartbeats 4000000 in
set_option maxRecDepth 20000 in
/-- isPlacedAs, of two rows of n -/
theorem c_X3_isPlacedAs (G : aG) {h : aH} {nx r r2 n : Nat} {l m : List Nat} (hR : RowAt h r l) (hR2 : RowAt h r2 m) (hc : cOk n l) (hc2 : cOk n m) (hn : n ≤ 16) : aMet G mX3_isPlacedAs 2 0 0 [.ref (r), .ref (r2)] h nx (pI (bI (decide (∀ i, i < n → l.getD i 0 / 2 = m.getD i 0 / 2))) h nx) := by
  have hR0 := hR
  have hR20 := hR2
  have e1 := hc.1
  have e2 := hc2.1
  refine aMet_of rfl (Nat.le_of_ble_eq_true rfl) ?_
  show aw G mX3_isPlacedAs [] (aRoom 2 0 0) (aEnd G (pI (bI (decide (∀ i, i < n → l.getD i 0 / 2 = m.getD i 0 / 2))) h nx) 0 0) 0 0 h nx 0 [(0, .ref (r)), (1, .ref (r2))] []
  obtain ⟨u_1f, u_1g, u_11, u_12, u_13, u_1l, u_1v⟩ := hR
  obtain ⟨u_2f, u_2g, u_21, u_22, u_23, u_2l, u_2v⟩ := hR2
  refine aw_ic dX3_isPlacedAs_0 ic_0 ?_
  refine aw_istore_n (L' := [(2, .int (nI (0))), (0, .ref (r)), (1, .ref (r2))]) dX3_isPlacedAs_1 (by decide) rfl ?_
  have K : ∀ (d : Nat) (i : Nat), n - i < d → (i ≤ n) → (∀ k, k < i → l.getD k 0 / 2 = m.getD k 0 / 2) → aw G mX3_isPlacedAs [] (aRoom 2 0 0) (aEnd G (pI (bI (decide (∀ i, i < n → l.getD i 0 / 2 = m.getD i 0 / 2))) h nx) 0 0) 0 0 h nx 2 [(0, .ref (r)), (1, .ref (r2)), (2, .int (nI (i)))] [] := by
    intro d
    induction d with
    | zero => intro i hMd; exact absurd hMd (Nat.not_lt_zero _)
    | succ d ih =>
      intro i hMd hi ha
      refine aw_iload_n dX3_isPlacedAs_2 rfl ?_
      refine aw_aload_n dX3_isPlacedAs_3 rfl ?_
      refine aw_get 2 u_11 rfl rfl (by decide) w_48 rfl dX3_isPlacedAs_4 ?_
      refine aw_icmp_geN (tgt := 31) (by omega) (by omega) dX3_isPlacedAs_7 (by decide) (fun c1 => ?_) (fun c1 => ?_)
      · skip
        refine aw_aload_n dX3_isPlacedAs_31 rfl ?_
        refine aw_get 2 u_11 rfl rfl (by decide) w_48 rfl dX3_isPlacedAs_32 ?_
        refine aw_aload_n dX3_isPlacedAs_35 rfl ?_
        refine aw_get 2 u_21 rfl rfl (by decide) w_48 rfl dX3_isPlacedAs_36 ?_
        refine aw_icmp_neN (tgt := 46) (by omega) (by omega) dX3_isPlacedAs_39 (by decide) (fun c2 => absurd c2 (by omega)) (fun c2 => ?_)
        refine aw_ic dX3_isPlacedAs_42 ic_1 ?_
        refine aw_goto (tgt := 47) dX3_isPlacedAs_43 (by decide) ?_
        exact aw_zreturn dX3_isPlacedAs_47 rfl (bI_nar true) ⟨r_t (decide_eq_true (fun k hk => ha k (by omega))), rfl, rfl⟩ (Nat.le_of_ble_eq_true rfl) (Nat.le_of_ble_eq_true rfl)
      · skip
        refine aw_aload_n dX3_isPlacedAs_10 rfl ?_
        refine aw_iload_n dX3_isPlacedAs_11 rfl ?_
        have q1 := hc.2 i c1
        have q2 := hc2.2 i (by omega)
        refine aw_callVR (As := [.int (nI (i))]) (rest := []) (c_X3_numberAt G hR0 c1 (by omega)) kX3_numberAt w_307 u_11 rfl rfl rfl rfl (Nat.le_of_ble_eq_true rfl) dX3_isPlacedAs_12 ⟨Nat.le_of_ble_eq_true rfl, Nat.le_of_ble_eq_true rfl⟩ ⟨Nat.le_of_ble_eq_true rfl, Nat.le_of_ble_eq_true rfl⟩ ?_
        refine aw_aload_n dX3_isPlacedAs_15 rfl ?_
        refine aw_iload_n dX3_isPlacedAs_16 rfl ?_
        refine aw_callVR (As := [.int (nI (i))]) (rest := [.int (nI (l.getD i 0 / 2))]) (c_X3_numberAt G hR20 (by omega) (by omega)) kX3_numberAt w_307 u_21 rfl rfl rfl rfl (Nat.le_of_ble_eq_true rfl) dX3_isPlacedAs_17 ⟨Nat.le_of_ble_eq_true rfl, Nat.le_of_ble_eq_true rfl⟩ ⟨Nat.le_of_ble_eq_true rfl, Nat.le_of_ble_eq_true rfl⟩ ?_
        refine aw_icmp_eqN (tgt := 25) (by omega) (by omega) dX3_isPlacedAs_20 (by decide) (fun c2 => ?_) (fun c2 => ?_)
        · skip
          refine aw_iincN (k := 1) (L' := [(2, .int (nI (i + 1))), (0, .ref (r)), (1, .ref (r2))]) dX3_isPlacedAs_25 (by decide) rfl (by decide) rfl ?_
          refine aw_goto (tgt := 2) dX3_isPlacedAs_28 (by decide) ?_
          refine aw_sub (L' := [(0, .ref (r)), (1, .ref (r2)), (2, .int (nI (i + 1)))]) [1, 2, 0] rfl ?_
          exact ih (i + 1) (by omega) (by omega) (fun k hk => by rcases Nat.lt_or_ge k i with q | q; exact ha k q; rw [show k = i by omega]; exact c2)
        · skip
          refine aw_ic dX3_isPlacedAs_23 ic_0 ?_
          exact aw_zreturn dX3_isPlacedAs_24 rfl (bI_nar false) ⟨r_f (decide_eq_false (fun q => c2 (q i (by omega)))), rfl, rfl⟩ (Nat.le_of_ble_eq_true rfl) (Nat.le_of_ble_eq_true rfl)
  refine aw_sub (L' := [(0, .ref (r)), (1, .ref (r2)), (2, .int (nI (0)))]) [1, 2, 0] rfl ?_
  exact K (n + 1) 0 (by omega) (Nat.zero_le _) (fun k hk => absurd hk (Nat.not_lt_zero _))
set_option maxHeartbeats 4000000 in
set_option maxRecDepth 20000 in
/-- turnAt(i), within -/
theorem c_X3_turnAt (G : aG) {h : aH} {nx r : Nat} {l : List Nat} {i : Nat} (hR : RowAt h r l) (hi : i < l.length) : aMet G mX3_turnAt 1 0 0 [.ref (r), .int (nI (i))] h nx (pQ (fun v h1 n1 => v = none ∧ n1 = nx ∧ RowAt h1 r (l.set i (l.getD i 0 ^^^ 1)) ∧ aOff h h1 r 3)) := by
  have hR0 := hR
  obtain ⟨f, g, f1, f2, f3, hl, hv⟩ := hR
  have hh : decide (0 ≤ nI i ∧ nI i < nI l.length) = true := decide_eq_true ⟨nI_pos' (by omega), nI_lt hi (by omega)⟩
  refine aMet_of rfl (Nat.le_of_ble_eq_true rfl) ?_
  show aw G mX3_turnAt [] (aRoom 1 0 0) (aEnd G (pQ (fun v h1 n1 => v = none ∧ n1 = nx ∧ RowAt h1 r (l.set i (l.getD i 0 ^^^ 1)) ∧ aOff h h1 r 3)) 0 0) 0 0 h nx 0 [(0, .ref (r)), (1, .int (nI (i)))] []
  refine aw_aload_n dX3_turnAt_0 rfl ?_
  refine aw_iload_n dX3_turnAt_1 rfl ?_
  refine aw_callVR (As := [.int (nI (i))]) (rest := []) (c_X3_has G (nI i) hR0) kX3_has w_234 f1 rfl rfl rfl rfl (Nat.le_of_ble_eq_true rfl) dX3_turnAt_2 ⟨Nat.le_of_ble_eq_true rfl, Nat.le_of_ble_eq_true rfl⟩ ⟨Nat.le_of_ble_eq_true rfl, Nat.le_of_ble_eq_true rfl⟩ ?_
  refine aw_if_eqB (tgt := 18) dX3_turnAt_5 (by decide) (fun c1 => absurd c1 (by rw [hh]; decide)) (fun c1 => ?_)
  refine aw_aload_n dX3_turnAt_8 rfl ?_
  refine aw_get 0 f1 rfl rfl (by decide) w_46 rfl dX3_turnAt_9 ?_
  refine aw_iload_n dX3_turnAt_12 rfl ?_
  refine aw_dup2 dX3_turnAt_13 rfl rfl ?_
  refine aw_iaload f2 (by omega) (by omega) dX3_turnAt_14 ?_
  rw [hv i hi]
  refine aw_ic dX3_turnAt_15 ic_1 ?_
  refine aw_ixor dX3_turnAt_16 ?_
  refine aw_top (show ((nI (l.getD i 0)) ^^^ (nI (1))) = (nI (l.getD i 0 ^^^ 1)) from nI_xor _ _) ?_
  refine aw_iastoreV f2 (by omega) (by omega) dX3_turnAt_17 (fun h_1 f_1 o_1 => ?_)
  have f_2 := (o_1 r (by omega)).trans f1
  have f_3 := (o_1 (r + 2) (by omega)).trans f3
  refine aw_return dX3_turnAt_18 rfl ⟨_, rfl, rfl, rfl, ⟨_, g, by rw [List.length_set]; exact f_2, f_1, f_3, by rw [List.length_set]; exact hl, fun j hj => ?_⟩, fun a ha => o_1 a (by omega)⟩ (Nat.le_of_ble_eq_true rfl) (Nat.le_of_ble_eq_true rfl)
  rw [List.length_set] at hj
  rw [gD_set hi]
  by_cases q : j = i
  · subst q; simp [upd]
  · simp only [upd, if_neg q]; exact hv j hj
set_option maxHeartbeats 4000000 in
set_option maxRecDepth 20000 in
/-- save(kept) -/
theorem c_X3_save (G : aG) {h : aH} {nx r : Nat} {l : List Nat} {a : Nat} {m : List Nat} (hR : RowAt h r l) (hK : KeptAt h a m) (hd : a < r ∨ r + 3 ≤ a) : aMet G mX3_save 6 0 0 [.ref (r), .ref (a)] h nx (pQ (fun v h1 n1 => v = none ∧ n1 = nx ∧ KeptAt h1 a l ∧ aOff h h1 a 1)) := by
  obtain ⟨f, g, f1, f2, f3, hl, hv⟩ := hR
  obtain ⟨kf, k1, kv⟩ := hK
  refine aMet_of rfl (Nat.le_of_ble_eq_true rfl) ?_
  show aw G mX3_save [] (aRoom 6 0 0) (aEnd G (pQ (fun v h1 n1 => v = none ∧ n1 = nx ∧ KeptAt h1 a l ∧ aOff h h1 a 1)) 0 0) 0 0 h nx 0 [(0, .ref (r)), (1, .ref (a))] []
  refine aw_aload_n dX3_save_0 rfl ?_
  refine aw_get 0 f1 rfl rfl (by decide) w_46 rfl dX3_save_1 ?_
  refine aw_ic dX3_save_4 ic_0 ?_
  refine aw_aload_n dX3_save_5 rfl ?_
  refine aw_ic dX3_save_6 ic_0 ?_
  refine aw_aload_n dX3_save_7 rfl ?_
  refine aw_lenI k1 dX3_save_8 ?_
  refine aw_bp (v := 16) dX3_save_9 (by decide) ?_
  refine aw_min w_564 w_282 w_16 w_283 (Nat.le_of_ble_eq_true rfl) (Nat.le_of_ble_eq_true rfl) (Nat.le_of_ble_eq_true rfl) (Nat.le_of_ble_eq_true rfl) dX3_save_11 ?_
  refine aw_top (show (if (nI (16)) < (nI (16)) then (nI (16)) else (nI (16))) = (nI (16)) from by decide) ?_
  refine aw_copyIV f2 k1 (by omega) (by omega) (by omega) (by omega) w_428 w_430 w_429 w_18 (Nat.le_of_ble_eq_true rfl) (Nat.le_of_ble_eq_true rfl) dX3_save_14 (fun h_1 f_1 o_1 => ?_)
  have f_2 := (o_1 r (by omega)).trans f1
  have f_3 := (o_1 (r + 1) (by omega)).trans f2
  have f_4 := (o_1 (r + 2) (by omega)).trans f3
  refine aw_return dX3_save_17 rfl ⟨_, rfl, rfl, rfl, ⟨_, f_1, fun i hi => ?_⟩, fun b hb => o_1 b (by omega)⟩ (Nat.le_of_ble_eq_true rfl) (Nat.le_of_ble_eq_true rfl)
  rw [pk_cpy_in (Nat.zero_le i) (by omega), Nat.sub_zero, Nat.zero_add]; exact hv i hi
set_option maxHeartbeats 4000000 in
set_option maxRecDepth 20000 in
/-- restore(kept) -/
theorem c_X3_restore (G : aG) {h : aH} {nx r : Nat} {l : List Nat} {a : Nat} {m : List Nat} (hR : RowAt h r l) (hK : KeptAt h a m) (hm : m.length = l.length) (hd : a < r ∨ r + 3 ≤ a) : aMet G mX3_restore 6 0 0 [.ref (r), .ref (a)] h nx (pQ (fun v h1 n1 => v = none ∧ n1 = nx ∧ RowAt h1 r (m) ∧ aOff h h1 r 3)) := by
  obtain ⟨f, g, f1, f2, f3, hl, hv⟩ := hR
  obtain ⟨kf, k1, kv⟩ := hK
  refine aMet_of rfl (Nat.le_of_ble_eq_true rfl) ?_
  show aw G mX3_restore [] (aRoom 6 0 0) (aEnd G (pQ (fun v h1 n1 => v = none ∧ n1 = nx ∧ RowAt h1 r (m) ∧ aOff h h1 r 3)) 0 0) 0 0 h nx 0 [(0, .ref (r)), (1, .ref (a))] []
  refine aw_aload_n dX3_restore_0 rfl ?_
  refine aw_ic dX3_restore_1 ic_0 ?_
  refine aw_aload_n dX3_restore_2 rfl ?_
  refine aw_get 0 f1 rfl rfl (by decide) w_46 rfl dX3_restore_3 ?_
  refine aw_ic dX3_restore_6 ic_0 ?_
  refine aw_aload_n dX3_restore_7 rfl ?_
  refine aw_lenI k1 dX3_restore_8 ?_
  refine aw_bp (v := 16) dX3_restore_9 (by decide) ?_
  refine aw_min w_564 w_282 w_16 w_283 (Nat.le_of_ble_eq_true rfl) (Nat.le_of_ble_eq_true rfl) (Nat.le_of_ble_eq_true rfl) (Nat.le_of_ble_eq_true rfl) dX3_restore_11 ?_
  refine aw_top (show (if (nI (16)) < (nI (16)) then (nI (16)) else (nI (16))) = (nI (16)) from by decide) ?_
  refine aw_copyIV k1 f2 (by omega) (by omega) (by omega) (by omega) w_428 w_430 w_429 w_18 (Nat.le_of_ble_eq_true rfl) (Nat.le_of_ble_eq_true rfl) dX3_restore_14 (fun h_1 f_1 o_1 => ?_)
  have f_2 := (o_1 r (by omega)).trans f1
  have f_3 := (o_1 (r + 2) (by omega)).trans f3
  have f_4 := (o_1 a (by omega)).trans k1
  refine aw_return dX3_restore_17 rfl ⟨_, rfl, rfl, rfl, ⟨_, g, by rw [hm]; exact f_2, f_1, f_3, by omega, fun i hi => ?_⟩, fun b hb => o_1 b (by omega)⟩ (Nat.le_of_ble_eq_true rfl) (Nat.le_of_ble_eq_true rfl)
  rw [pk_cpy_in (Nat.zero_le i) (by omega), Nat.sub_zero, Nat.zero_add]; exact kv i hi
set_option maxHeartbeats 4000000 in
set_option maxRecDepth 20000 in
/-- copy(other) -/
theorem c_X3_copy (G : aG) {h : aH} {nx r r2 : Nat} {l m : List Nat} (hR : RowAt h r l) (hR2 : RowAt h r2 m) (hd : r + 3 ≤ r2 ∨ r2 + 3 ≤ r) : aMet G mX3_copy 6 0 0 [.ref (r), .ref (r2)] h nx (pQ (fun v h1 n1 => v = none ∧ n1 = nx ∧ RowAt h1 r (m) ∧ aOff h h1 r 3)) := by
  refine aMet_of rfl (Nat.le_of_ble_eq_true rfl) ?_
  show aw G mX3_copy [] (aRoom 6 0 0) (aEnd G (pQ (fun v h1 n1 => v = none ∧ n1 = nx ∧ RowAt h1 r (m) ∧ aOff h h1 r 3)) 0 0) 0 0 h nx 0 [(0, .ref (r)), (1, .ref (r2))] []
  obtain ⟨u_1f, u_1g, u_11, u_12, u_13, u_1l, u_1v⟩ := hR
  obtain ⟨u_2f, u_2g, u_21, u_22, u_23, u_2l, u_2v⟩ := hR2
  refine aw_aload_n dX3_copy_0 rfl ?_
  refine aw_aload_n dX3_copy_1 rfl ?_
  refine aw_get 2 u_21 rfl rfl (by decide) w_48 rfl dX3_copy_2 ?_
  refine aw_putV (v := .int (nI (m.length))) (ty := .int) (fs' := [.ref (r + 1), .ref (r + 2), .int (nI (m.length))]) 2 u_11 rfl rfl (by decide) (by decide +kernel) rfl rfl rfl (Nat.le_of_ble_eq_true rfl) rfl w_48 dX3_copy_5 (fun h_1 f_1 o_1 => ?_)
  have f_2 := (o_1 (r + 1) (by omega)).trans u_12
  have f_3 := (o_1 (r + 2) (by omega)).trans u_13
  have f_4 := (o_1 r2 (by omega)).trans u_21
  have f_5 := (o_1 (r2 + 1) (by omega)).trans u_22
  have f_6 := (o_1 (r2 + 2) (by omega)).trans u_23
  refine aw_aload_n dX3_copy_8 rfl ?_
  refine aw_get 0 f_4 rfl rfl (by decide) w_46 rfl dX3_copy_9 ?_
  refine aw_ic dX3_copy_12 ic_0 ?_
  refine aw_aload_n dX3_copy_13 rfl ?_
  refine aw_get 0 f_1 rfl rfl (by decide) w_46 rfl dX3_copy_14 ?_
  refine aw_ic dX3_copy_17 ic_0 ?_
  refine aw_bp (v := 16) dX3_copy_18 (by decide) ?_
  refine aw_copyIV f_5 f_2 (by omega) (by omega) (by omega) (by omega) w_428 w_430 w_429 w_18 (Nat.le_of_ble_eq_true rfl) (Nat.le_of_ble_eq_true rfl) dX3_copy_20 (fun h_2 f_7 o_2 => ?_)
  have f_8 := (o_2 r (by omega)).trans f_1
  have f_9 := (o_2 (r + 2) (by omega)).trans f_3
  have f_10 := (o_2 r2 (by omega)).trans f_4
  have f_11 := (o_2 (r2 + 1) (by omega)).trans f_5
  have f_12 := (o_2 (r2 + 2) (by omega)).trans f_6
  refine aw_return dX3_copy_23 rfl ⟨_, rfl, rfl, rfl, ⟨_, _, f_8, f_7, f_9, by omega, fun i hi => ?_⟩, fun b hb => (o_2 b (by omega)).trans (o_1 b (by omega))⟩ (Nat.le_of_ble_eq_true rfl) (Nat.le_of_ble_eq_true rfl)
  rw [pk_cpy_in (Nat.zero_le i) (by omega), Nat.sub_zero, Nat.zero_add]; exact u_2v i hi
set_option maxHeartbeats 4000000 in
set_option maxRecDepth 20000 in
/-- follow(shuffle), which may be this row -/
theorem c_X3_follow (G : aG) {h : aH} {nx r r2 n : Nat} {l s : List Nat} (hR : RowAt h r l) (hR2 : RowAt h r2 s) (hc : cOk n l) (hs : cOk n s) (hn : n ≤ 16) (hdis : r2 = r ∨ r + 3 ≤ r2 ∨ r2 + 3 ≤ r) : aMet G mX3_follow 6 0 0 [.ref (r), .ref (r2)] h nx (pQ (fun v h1 n1 => v = none ∧ n1 = nx ∧ RowAt h1 r (fol l s) ∧ aOff h h1 r 3)) := by
  have e1 := hc.1
  have e2 := hs.1
  have hR2a := hR2
  refine aMet_of rfl (Nat.le_of_ble_eq_true rfl) ?_
  show aw G mX3_follow [] (aRoom 6 0 0) (aEnd G (pQ (fun v h1 n1 => v = none ∧ n1 = nx ∧ RowAt h1 r (fol l s) ∧ aOff h h1 r 3)) 0 0) 0 0 h nx 0 [(0, .ref (r)), (1, .ref (r2))] []
  obtain ⟨u_1f, u_1g, u_11, u_12, u_13, u_1l, u_1v⟩ := hR
  refine aw_aload_n dX3_follow_0 rfl ?_
  refine aw_get 0 u_11 rfl rfl (by decide) w_46 rfl dX3_follow_1 ?_
  refine aw_ic dX3_follow_4 ic_0 ?_
  refine aw_aload_n dX3_follow_5 rfl ?_
  refine aw_get 1 u_11 rfl rfl (by decide) w_47 rfl dX3_follow_6 ?_
  refine aw_ic dX3_follow_9 ic_0 ?_
  refine aw_bp (v := 16) dX3_follow_10 (by decide) ?_
  refine aw_copyIV u_12 u_13 (by omega) (by omega) (by omega) (by omega) w_428 w_430 w_429 w_18 (Nat.le_of_ble_eq_true rfl) (Nat.le_of_ble_eq_true rfl) dX3_follow_12 (fun h_1 f_1 o_1 => ?_)
  have f_2 := (o_1 r (by omega)).trans u_11
  have f_3 := (o_1 (r + 1) (by omega)).trans u_12
  refine aw_ic dX3_follow_15 ic_0 ?_
  refine aw_istore_n (L' := [(2, .int (nI (0))), (0, .ref (r)), (1, .ref (r2))]) dX3_follow_16 (by decide) rfl ?_
  have hB : ∀ i, i < n → va_cpy u_1f u_1g 0 0 16 i = nI (l.getD i 0) := fun i hi => by rw [pk_cpy_in (Nat.zero_le i) (by omega), Nat.sub_zero, Nat.zero_add]; exact u_1v i (by omega)
  obtain ⟨bf, hbf⟩ : ∃ z, z = va_cpy u_1f u_1g 0 0 16 := ⟨_, rfl⟩
  rw [← hbf] at hB f_1
  have K : ∀ (d : Nat) (i : Nat) (h1 : aH), n - i < d → (i ≤ n) → (∃ f : Nat → Int32, h1 r = some (.inr (3, [.ref (r + 1), .ref (r + 2), .int (nI n)])) ∧ h1 (r + 1) = some (.inl (0, 16, .inl f)) ∧ h1 (r + 2) = some (.inl (0, 16, .inl bf)) ∧ (∀ k, k < i → f k = nI ((fol l s).getD k 0)) ∧ ∀ k, i ≤ k → k < n → f k = nI (l.getD k 0)) → (∃ s2 : List Nat, RowAt h1 r2 s2 ∧ s2.length = n ∧ ∀ k, i ≤ k → k < n → s2.getD k 0 = s.getD k 0) → (aOff h h1 r 3) → aw G mX3_follow [] (aRoom 6 0 0) (aEnd G (pQ (fun v h1 n1 => v = none ∧ n1 = nx ∧ RowAt h1 r (fol l s) ∧ aOff h h1 r 3)) 0 0) 0 0 h1 nx 17 [(0, .ref (r)), (1, .ref (r2)), (2, .int (nI (i)))] [] := by
    intro d
    induction d with
    | zero => intro i h1 hMd; exact absurd hMd (Nat.not_lt_zero _)
    | succ d ih =>
      intro i h1 hMd hi hA hS ho
      obtain ⟨lf, g1, g2, g3, gA, gB⟩ := hA
      obtain ⟨s2, hS1, hS2, hS3⟩ := hS
      refine aw_iload_n dX3_follow_17 rfl ?_
      refine aw_aload_n dX3_follow_18 rfl ?_
      refine aw_get 2 g1 rfl rfl (by decide) w_48 rfl dX3_follow_19 ?_
      refine aw_icmp_geN (tgt := 83) (by omega) (by omega) dX3_follow_22 (by decide) (fun c1 => ?_) (fun c1 => ?_)
      · skip
        have e : i = n := by omega
        subst e
        exact aw_return dX3_follow_83 rfl ⟨_, rfl, rfl, rfl, ⟨lf, bf, by rw [fol_len, e2]; exact g1, g2, g3, by rw [fol_len]; omega, fun k hk => gA k (by rw [fol_len] at hk; omega)⟩, ho⟩ (Nat.le_of_ble_eq_true rfl) (Nat.le_of_ble_eq_true rfl)
      · skip
        have hsi := hs.2 i (by omega)
        have hS3i := hS3 i (Nat.le_refl _) c1
        have hg9 := hS1
        obtain ⟨vf, vg, v1, v2, v3, vl, vv⟩ := hg9
        refine aw_aload_n dX3_follow_25 rfl ?_
        refine aw_iload_n dX3_follow_26 rfl ?_
        refine aw_callVR (As := [.int (nI (i))]) (rest := []) (c_X3_numberAt G hS1 (i := i) (by omega) (by omega)) kX3_numberAt w_307 v1 rfl rfl rfl rfl (Nat.le_of_ble_eq_true rfl) dX3_follow_27 ⟨Nat.le_of_ble_eq_true rfl, Nat.le_of_ble_eq_true rfl⟩ ⟨Nat.le_of_ble_eq_true rfl, Nat.le_of_ble_eq_true rfl⟩ ?_
        rw [hS3i]
        refine aw_istore_n (L' := [(3, .int (nI (s.getD i 0 / 2))), (0, .ref (r)), (1, .ref (r2)), (2, .int (nI (i)))]) dX3_follow_30 (by decide) rfl ?_
        refine aw_aload_n dX3_follow_31 rfl ?_
        refine aw_iload_n dX3_follow_32 rfl ?_
        refine aw_callVR (As := [.int (nI (i))]) (rest := []) (c_X3_isTurnedAt G hS1 (i := i) (by omega) (by omega)) kX3_isTurnedAt w_435 v1 rfl rfl rfl rfl (Nat.le_of_ble_eq_true rfl) dX3_follow_33 ⟨Nat.le_of_ble_eq_true rfl, Nat.le_of_ble_eq_true rfl⟩ ⟨Nat.le_of_ble_eq_true rfl, Nat.le_of_ble_eq_true rfl⟩ ?_
        rw [hS3i]
        have J : aw G mX3_follow [] (aRoom 6 0 0) (aEnd G (pQ (fun v h1 n1 => v = none ∧ n1 = nx ∧ RowAt h1 r (fol l s) ∧ aOff h h1 r 3)) 0 0) 0 0 h1 nx 44 [(3, .int (nI (s.getD i 0 / 2))), (0, .ref (r)), (1, .ref (r2)), (2, .int (nI (i)))] [.int (nI (s.getD i 0 % 2))] := by
          refine aw_istore (L' := [(4, .int (nI (s.getD i 0 % 2))), (3, .int (nI (s.getD i 0 / 2))), (0, .ref (r)), (1, .ref (r2)), (2, .int (nI (i)))]) dX3_follow_44 (by decide) rfl ?_
          refine aw_aload_n dX3_follow_46 rfl ?_
          refine aw_iload_n dX3_follow_47 rfl ?_
          have hh : decide (0 ≤ nI i ∧ nI i < nI l.length) = true := decide_eq_true ⟨nI_pos' (by omega), nI_lt (by omega) (by omega)⟩
          have hRr : RowAt h1 r ((List.range n).map (fun k => if k < i then (fol l s).getD k 0 else l.getD k 0)) := ⟨lf, bf, by simpa using g1, g2, g3, by simpa using hn, fun k hk => by
            have hk2 : k < n := by simpa using hk
            rw [gD_map (by simpa using hk2)]
            have e9 : (List.range n).getD k 0 = k := by simp [List.getD, hk2]
            rw [e9]
            by_cases q : k < i
            · rw [if_pos q]; exact gA k q
            · rw [if_neg q]; exact gB k (by omega) hk2⟩
          have hh1 : ∀ m : Nat, m < n → decide (0 ≤ nI m ∧ nI m < nI ((List.range n).map (fun k => if k < i then (fol l s).getD k 0 else l.getD k 0)).length) = true := fun m hm => decide_eq_true ⟨nI_pos' (by omega), nI_lt (by simpa using hm) (by simp; omega)⟩
          refine aw_callVR (As := [.int (nI (i))]) (rest := []) (c_X3_has G (nI i) hRr) kX3_has w_234 g1 rfl rfl rfl rfl (Nat.le_of_ble_eq_true rfl) dX3_follow_48 ⟨Nat.le_of_ble_eq_true rfl, Nat.le_of_ble_eq_true rfl⟩ ⟨Nat.le_of_ble_eq_true rfl, Nat.le_of_ble_eq_true rfl⟩ ?_
          refine aw_if_eqB (tgt := 77) dX3_follow_51 (by decide) (fun c2 => absurd c2 (by rw [hh1 i c1]; decide)) (fun c2 => ?_)
          refine aw_aload_n dX3_follow_54 rfl ?_
          refine aw_iload_n dX3_follow_55 rfl ?_
          refine aw_callVR (As := [.int (nI (s.getD i 0 / 2))]) (rest := []) (c_X3_has G (nI (s.getD i 0 / 2)) hRr) kX3_has w_234 g1 rfl rfl rfl rfl (Nat.le_of_ble_eq_true rfl) dX3_follow_56 ⟨Nat.le_of_ble_eq_true rfl, Nat.le_of_ble_eq_true rfl⟩ ⟨Nat.le_of_ble_eq_true rfl, Nat.le_of_ble_eq_true rfl⟩ ?_
          refine aw_if_eqB (tgt := 77) dX3_follow_59 (by decide) (fun c3 => absurd c3 (by rw [hh1 _ (by omega)]; decide)) (fun c3 => ?_)
          refine aw_aload_n dX3_follow_62 rfl ?_
          refine aw_get 0 g1 rfl rfl (by decide) w_46 rfl dX3_follow_63 ?_
          refine aw_iload_n dX3_follow_66 rfl ?_
          refine aw_aload_n dX3_follow_67 rfl ?_
          refine aw_get 1 g1 rfl rfl (by decide) w_47 rfl dX3_follow_68 ?_
          refine aw_iload_n dX3_follow_71 rfl ?_
          refine aw_iaload g3 (by omega) (by omega) dX3_follow_72 ?_
          rw [hB (s.getD i 0 / 2) (by omega)]
          refine aw_iload dX3_follow_73 rfl ?_
          refine aw_ixor dX3_follow_75 ?_
          refine aw_top (show ((nI (l.getD (s.getD i 0 / 2) 0)) ^^^ (nI (s.getD i 0 % 2))) = (nI (l.getD (s.getD i 0 / 2) 0 ^^^ (s.getD i 0 % 2))) from nI_xor _ _) ?_
          refine aw_iastoreV g2 (by omega) (by omega) dX3_follow_76 (fun h_2 f_4 o_2 => ?_)
          have f_5 := (o_2 r (by omega)).trans g1
          have f_6 := (o_2 (r + 2) (by omega)).trans g3
          have f_7 := (o_2 r2 (by omega)).trans v1
          refine aw_iincN (k := 1) (L' := [(2, .int (nI (i + 1))), (4, .int (nI (s.getD i 0 % 2))), (3, .int (nI (s.getD i 0 / 2))), (0, .ref (r)), (1, .ref (r2))]) dX3_follow_77 (by decide) rfl (by decide) rfl ?_
          refine aw_goto (tgt := 17) dX3_follow_80 (by decide) ?_
          refine aw_sub (L' := [(0, .ref (r)), (1, .ref (r2)), (2, .int (nI (i + 1)))]) [3, 4, 0] rfl ?_
          refine ih (i + 1) h_2 (by omega) (by omega) ⟨_, f_5, f_4, f_6, fun k hk => ?_, fun k hk1 hk2 => ?_⟩ ?_ (fun a ha => (o_2 a (by omega)).trans (ho a ha))
          · by_cases q : k = i
            · rw [q, fol_at (by omega)]; simp [upd]
            · simp only [upd, if_neg q]; exact gA k (by omega)
          · simp only [upd, if_neg (show k ≠ i by omega)]; exact gB k (by omega) hk2
          · rcases hdis with hd | hd
            · subst hd
              refine ⟨s2.set i (l.getD (s.getD i 0 / 2) 0 ^^^ (s.getD i 0 % 2)), ⟨_, bf, by rw [List.length_set, hS2]; exact f_5, f_4, f_6, by rw [List.length_set]; omega, fun k hk => ?_⟩, by rw [List.length_set]; exact hS2, fun k hk1 hk2 => ?_⟩
              · rw [List.length_set] at hk
                rw [gD_set (by omega)]
                have ef : vf = lf := by
                  have e9 := v2.symm.trans g2
                  simpa using e9
                by_cases q : k = i
                · rw [if_pos q, q]; simp [upd]
                · rw [if_neg q]; simp only [upd, if_neg q]; rw [← ef]; exact vv k hk
              · rw [gD_set (by omega), if_neg (by omega)]; exact hS3 k (by omega) hk2
            · exact ⟨s2, hS1.keep (fun a h1 h2 => o_2 a (by omega)), hS2, fun k hk1 hk2 => hS3 k (by omega) hk2⟩
        refine aw_if_eqB (tgt := 43) dX3_follow_36 (by decide) (fun c2 => ?_) (fun c2 => ?_)
        · skip
          have c3 := of_decide_eq_false c2
          refine aw_ic dX3_follow_43 ic_0 ?_
          rw [show s.getD i 0 % 2 = 0 by omega] at J
          exact J
        · skip
          have c3 := of_decide_eq_true c2
          refine aw_ic dX3_follow_39 ic_1 ?_
          refine aw_goto (tgt := 44) dX3_follow_40 (by decide) ?_
          rw [show s.getD i 0 % 2 = 1 by omega] at J
          exact J
  refine aw_sub (L' := [(0, .ref (r)), (1, .ref (r2)), (2, .int (nI (0)))]) [1, 2, 0] rfl ?_
  refine K (n + 1) 0 h_1 (by omega) (Nat.zero_le _) ⟨u_1f, by rw [← e1]; exact f_2, f_3, f_1, fun k hk => absurd hk (Nat.not_lt_zero _), fun k _ hk => u_1v k (by omega)⟩ ?_ (fun a ha => o_1 a (by omega))
  rcases hdis with hd | hd
  · subst hd
    refine ⟨s, ⟨u_1f, bf, ?_, f_3, f_1, by omega, fun k hk => ?_⟩, e2, fun _ _ _ => rfl⟩
    · rw [e2, ← e1]; exact f_2
    · obtain ⟨a1, a2, a3, a4, a5, a6, a7⟩ := hR2a
      have e9 := a4.symm.trans u_12
      have e8 : a1 = u_1f := by simpa using e9
      rw [← e8]; exact a7 k hk
  · exact ⟨s, hR2a.keep (fun a h1 h2 => o_1 a (by omega)), e2, fun _ _ _ => rfl⟩
set_option maxHeartbeats 4000000 in
set_option maxRecDepth 20000 in
/-- followOften(shuffle, often) -/
theorem c_X3_followOften (G : aG) {h : aH} {nx r r2 n d0 t : Nat} {l s : List Nat} (hR : RowAt h r l) (hR2 : RowAt h r2 s) (hc : cOk n l) (hs : cOk n s) (hn : n ≤ 16) (hdis : r + 3 ≤ r2 ∨ r2 + 3 ≤ r) (ht : t < 2 ^ d0) (ht2 : t < 2 ^ 31) : aMet G mX3_followOften 7 0 0 [.ref (r), .ref (r2), .int (nI (t))] h nx (pQ (fun v h1 n1 => v = none ∧ n1 = nx ∧ RowAt h1 r (oft d0 l s t) ∧ (∃ s2, RowAt h1 r2 s2) ∧ ∀ a, (a < r ∨ r + 3 ≤ a) → (a < r2 ∨ r2 + 3 ≤ a) → h1 a = h a)) := by
  refine aMet_of rfl (Nat.le_of_ble_eq_true rfl) ?_
  show aw G mX3_followOften [] (aRoom 7 0 0) (aEnd G (pQ (fun v h1 n1 => v = none ∧ n1 = nx ∧ RowAt h1 r (oft d0 l s t) ∧ (∃ s2, RowAt h1 r2 s2) ∧ ∀ a, (a < r ∨ r + 3 ≤ a) → (a < r2 ∨ r2 + 3 ≤ a) → h1 a = h a)) 0 0) 0 0 h nx 0 [(0, .ref (r)), (1, .ref (r2)), (2, .int (nI (t)))] []
  refine aw_iload_n dX3_followOften_0 rfl ?_
  refine aw_istore_n (L' := [(3, .int (nI (t))), (0, .ref (r)), (1, .ref (r2)), (2, .int (nI (t)))]) dX3_followOften_1 (by decide) rfl ?_
  have K : ∀ (d : Nat) (d1 t2 : Nat) (l2 s2 : List Nat) (h1 : aH), t2 < d → (t2 < 2 ^ d1 ∧ t2 < 2 ^ 31) → (cOk n l2) → (cOk n s2) → (RowAt h1 r l2) → (RowAt h1 r2 s2) → (oft d1 l2 s2 t2 = oft d0 l s t) → (∀ a, (a < r ∨ r + 3 ≤ a) → (a < r2 ∨ r2 + 3 ≤ a) → h1 a = h a) → aw G mX3_followOften [] (aRoom 7 0 0) (aEnd G (pQ (fun v h1 n1 => v = none ∧ n1 = nx ∧ RowAt h1 r (oft d0 l s t) ∧ (∃ s2, RowAt h1 r2 s2) ∧ ∀ a, (a < r ∨ r + 3 ≤ a) → (a < r2 ∨ r2 + 3 ≤ a) → h1 a = h a)) 0 0) 0 0 h1 nx 2 [(0, .ref (r)), (1, .ref (r2)), (2, .int (nI (t))), (3, .int (nI (t2)))] [] := by
    intro d
    induction d with
    | zero => intro d1 t2 l2 s2 h1 hMd; exact absurd hMd (Nat.not_lt_zero _)
    | succ d ih =>
      intro d1 t2 l2 s2 h1 hMd ht3 hcl hcs hA hB he ho
      have hA0 := hA
      have hB0 := hB
      obtain ⟨u_1f, u_1g, u_11, u_12, u_13, u_1l, u_1v⟩ := hA
      obtain ⟨u_2f, u_2g, u_21, u_22, u_23, u_2l, u_2v⟩ := hB
      refine aw_iload_n dX3_followOften_2 rfl ?_
      refine aw_if_leN (tgt := 29) (by omega) dX3_followOften_3 (by decide) (fun c1 => ?_) (fun c1 => ?_)
      · skip
        have e9 : oft d1 l2 s2 t2 = l2 := by cases d1 with
          | zero => rfl
          | succ d => simp [oft, c1]
        exact aw_return dX3_followOften_29 rfl ⟨_, rfl, rfl, rfl, by rw [← he, e9]; exact hA0, ⟨s2, hB0⟩, ho⟩ (Nat.le_of_ble_eq_true rfl) (Nat.le_of_ble_eq_true rfl)
      · skip
        obtain ⟨d2, rfl⟩ : ∃ d2, d1 = d2 + 1 := by cases d1 with
          | zero => simp at ht3; omega
          | succ d => exact ⟨d, rfl⟩
        refine aw_iload_n dX3_followOften_6 rfl ?_
        refine aw_ic dX3_followOften_7 ic_1 ?_
        refine aw_iand dX3_followOften_8 ?_
        refine aw_top (show ((nI (t2)) &&& (nI (1))) = (nI (t2 % 2)) from n_odd (by omega)) ?_
        have J : ∀ (l3 : List Nat) (h2 : aH), cOk n l3 → RowAt h2 r l3 → RowAt h2 r2 s2 → oft d2 l3 (fol s2 s2) (t2 / 2) = oft d0 l s t → (∀ a, (a < r ∨ r + 3 ≤ a) → (a < r2 ∨ r2 + 3 ≤ a) → h2 a = h a) → aw G mX3_followOften [] (aRoom 7 0 0) (aEnd G (pQ (fun v h1 n1 => v = none ∧ n1 = nx ∧ RowAt h1 r (oft d0 l s t) ∧ (∃ s2, RowAt h1 r2 s2) ∧ ∀ a, (a < r ∨ r + 3 ≤ a) → (a < r2 ∨ r2 + 3 ≤ a) → h1 a = h a)) 0 0) 0 0 h2 nx 17 [(0, .ref (r)), (1, .ref (r2)), (2, .int (nI (t))), (3, .int (nI (t2)))] [] := by
          intro l3 h2 hc3 hA3 hB3 he3 ho3
          have hB4 := hB3
          obtain ⟨u_3f, u_3g, u_31, u_32, u_33, u_3l, u_3v⟩ := hB4
          refine aw_aload_n dX3_followOften_17 rfl ?_
          refine aw_aload_n dX3_followOften_18 rfl ?_
          refine aw_callVQ (As := [.ref (r2)]) (rest := []) (c_X3_follow G hB3 hB3 hcs hcs hn (Or.inl rfl)) kX3_follow w_570 u_31 rfl rfl rfl rfl (Nat.le_of_ble_eq_true rfl) dX3_followOften_19 ⟨Nat.le_of_ble_eq_true rfl, Nat.le_of_ble_eq_true rfl⟩ ⟨Nat.le_of_ble_eq_true rfl, Nat.le_of_ble_eq_true rfl⟩ (fun v_1 h_1 n_1 q_1 z_1 => ?_)
          obtain ⟨rfl, rfl, R_1, o_1⟩ := q_1
          refine aw_iload_n dX3_followOften_22 rfl ?_
          refine aw_ic dX3_followOften_23 ic_1 ?_
          refine aw_ishr dX3_followOften_24 ?_
          refine aw_top (show ((nI (t2)) >>> ((nI (1)) &&& 31)) = (nI (t2 / 2)) from n_half (by omega)) ?_
          refine aw_istore_n (L' := [(3, .int (nI (t2 / 2))), (0, .ref (r)), (1, .ref (r2)), (2, .int (nI (t)))]) dX3_followOften_25 (by decide) rfl ?_
          refine aw_goto (tgt := 2) dX3_followOften_26 (by decide) ?_
          refine aw_sub (L' := [(0, .ref (r)), (1, .ref (r2)), (2, .int (nI (t))), (3, .int (nI (t2 / 2)))]) [1, 2, 3, 0] rfl ?_
          exact ih d2 (t2 / 2) l3 (fol s2 s2) h_1 (by omega) ⟨by rw [Nat.pow_succ] at ht3; omega, by omega⟩ hc3 (fol_cOk hcs hcs) (hA3.off o_1 (by omega)) R_1 he3 (fun a h1 h2 => (o_1 a (by omega)).trans (ho3 a h1 h2))
        refine aw_if_eqN (tgt := 17) (by omega) dX3_followOften_9 (by decide) (fun c2 => ?_) (fun c2 => ?_)
        · skip
          exact J l2 h1 hcl hA0 hB0 (by rw [← he]; simp [oft, show t2 ≠ 0 by omega, c2]) ho
        · skip
          refine aw_aload_n dX3_followOften_12 rfl ?_
          refine aw_aload_n dX3_followOften_13 rfl ?_
          refine aw_callVQ (As := [.ref (r2)]) (rest := []) (c_X3_follow G hA0 hB0 hcl hcs hn (by omega)) kX3_follow w_570 u_11 rfl rfl rfl rfl (Nat.le_of_ble_eq_true rfl) dX3_followOften_14 ⟨Nat.le_of_ble_eq_true rfl, Nat.le_of_ble_eq_true rfl⟩ ⟨Nat.le_of_ble_eq_true rfl, Nat.le_of_ble_eq_true rfl⟩ (fun v_2 h_2 n_2 q_2 z_2 => ?_)
          obtain ⟨rfl, rfl, R_2, o_2⟩ := q_2
          exact J (fol l2 s2) h_2 (fol_cOk hcl hcs) R_2 (hB0.off o_2 (by omega)) (by rw [← he]; simp [oft, show t2 ≠ 0 by omega, show t2 % 2 = 1 by omega]) (fun a h1 h2 => (o_2 a (by omega)).trans (ho a h1 h2))
  refine aw_sub (L' := [(0, .ref (r)), (1, .ref (r2)), (2, .int (nI (t))), (3, .int (nI (t)))]) [1, 2, 3, 0] rfl ?_
  exact K (t + 1) d0 t l s h (by omega) ⟨ht, ht2⟩ hc hs hR hR2 rfl (fun _ _ _ => rfl)
