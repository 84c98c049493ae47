theorem eIx {xs : List Nat} {i j : Nat} : (xs.eraseIdx i).getD j 0 = if j < i then xs.getD j 0 else xs.getD (j + 1) 0 := by
  simp only [List.getD, List.getElem?_eraseIdx]
  split <;> rfl
theorem eIl {xs : List Nat} {i : Nat} (h : i < xs.length) : (xs.eraseIdx i).length = xs.length - 1 := by rw [List.length_eraseIdx_of_lt h]
set_option maxHeartbeats 4000000 in
set_option maxRecDepth 20000 in
/-- AbstractCollection() -/
theorem c_ACinit (G : aG) {h : aH} {nx a : Nat} : aMet G mJxa1e45_init_da8c8 1 0 0 [.ref (a)] h nx (pR none h nx) := by
  refine aMet_ofF (by decide +kernel) (Nat.le_of_ble_eq_true rfl) ?_
  show aw G mJxa1e45_init_da8c8 [] (aRoom 1 0 0) (aEnd G (pR none h nx) 0 0) 0 0 h nx 0 [(0, .ref (a))] []
  refine aw_aload_n dJxa1e45_init_da8c8_0 rfl ?_
  refine aw_objInit w_712 w_34 w_35 (Nat.le_of_ble_eq_true rfl) (Nat.le_of_ble_eq_true rfl) dJxa1e45_init_da8c8_1 ?_
  exact aw_return dJxa1e45_init_da8c8_4 rfl ⟨rfl, rfl, rfl⟩ (Nat.le_of_ble_eq_true rfl) (Nat.le_of_ble_eq_true rfl)
set_option maxHeartbeats 4000000 in
set_option maxRecDepth 20000 in
/-- AbstractList() -/
theorem c_ALinit0 (G : aG) {h : aH} {nx a : Nat} (f1 : h a = some (.inr (1, [.int (nI 0), .null, .int (nI 0)]))) : aMet G mJxc12de_init_da8c8 2 0 0 [.ref (a)] h nx (pQ (fun v h1 n1 => v = none ∧ n1 = nx ∧ h1 a = some (.inr (1, [.int (nI 0), .null, .int (nI 0)])) ∧ ∀ b, b ≠ a → h1 b = h b)) := by
  refine aMet_ofF (by decide +kernel) (Nat.le_of_ble_eq_true rfl) ?_
  show aw G mJxc12de_init_da8c8 [] (aRoom 2 0 0) (aEnd G (pQ (fun v h1 n1 => v = none ∧ n1 = nx ∧ h1 a = some (.inr (1, [.int (nI 0), .null, .int (nI 0)])) ∧ ∀ b, b ≠ a → h1 b = h b)) 0 0) 0 0 h nx 0 [(0, .ref (a))] []
  refine aw_aload_n dJxc12de_init_da8c8_0 rfl ?_
  refine aw_callIR (As := []) (rest := []) (c_ACinit G) kJxa1e45_init_da8c8 w_709 rfl rfl (Nat.le_of_ble_eq_true rfl) dJxc12de_init_da8c8_1 ⟨Nat.le_of_ble_eq_true rfl, Nat.le_of_ble_eq_true rfl⟩ ⟨Nat.le_of_ble_eq_true rfl, Nat.le_of_ble_eq_true rfl⟩ ?_
  refine aw_aload_n dJxc12de_init_da8c8_4 rfl ?_
  refine aw_ic dJxc12de_init_da8c8_5 ic_0 ?_
  refine aw_putV (v := .int (nI (0))) (ty := .int) (fs' := [.int (nI (0)), .null, .int (nI (0))]) 0 f1 rfl rfl (by decide) (by decide +kernel) rfl rfl rfl (Nat.le_of_ble_eq_true rfl) rfl w_719 dJxc12de_init_da8c8_6 (fun h_1 f_1 o_1 => ?_)
  exact aw_return dJxc12de_init_da8c8_9 rfl ⟨_, rfl, rfl, rfl, f_1, o_1⟩ (Nat.le_of_ble_eq_true rfl) (Nat.le_of_ble_eq_true rfl)
set_option maxHeartbeats 4000000 in
set_option maxRecDepth 20000 in
/-- ArrayList() -/
theorem c_Linit (G : aG) {h : aH} {nx a : Nat} (f1 : h a = some (.inr (1, [.int (nI 0), .null, .int (nI 0)]))) : aMet G mJx4a65c_init_da8c8 3 0 0 [.ref (a)] h nx (pQ (fun v h1 n1 => v = none ∧ n1 = nx ∧ h1 a = some (.inr (1, [.int (nI 0), .ref G.2.2.2, .int (nI 0)])) ∧ ∀ b, b ≠ a → h1 b = h b)) := by
  refine aMet_ofF (by decide +kernel) (Nat.le_of_ble_eq_true rfl) ?_
  show aw G mJx4a65c_init_da8c8 [] (aRoom 3 0 0) (aEnd G (pQ (fun v h1 n1 => v = none ∧ n1 = nx ∧ h1 a = some (.inr (1, [.int (nI 0), .ref G.2.2.2, .int (nI 0)])) ∧ ∀ b, b ≠ a → h1 b = h b)) 0 0) 0 0 h nx 0 [(0, .ref (a))] []
  refine aw_aload_n dJx4a65c_init_da8c8_0 rfl ?_
  refine aw_callIQ (As := []) (rest := []) (c_ALinit0 G f1) kJxc12de_init_da8c8 w_706 rfl rfl (Nat.le_of_ble_eq_true rfl) dJx4a65c_init_da8c8_1 ⟨Nat.le_of_ble_eq_true rfl, Nat.le_of_ble_eq_true rfl⟩ ⟨Nat.le_of_ble_eq_true rfl, Nat.le_of_ble_eq_true rfl⟩ (fun v_1 h_1 n_1 q_1 z_1 => ?_)
  obtain ⟨rfl, rfl, f2, o2⟩ := q_1
  refine aw_aload_n dJx4a65c_init_da8c8_4 rfl ?_
  refine aw_getsE w_713 dJx4a65c_init_da8c8_5 ?_
  refine aw_putV (v := .ref (G.2.2.2)) (ty := (.array (.object "java/lang/Object"))) (fs' := [.int (nI (0)), .ref (G.2.2.2), .int (nI (0))]) 1 f2 rfl rfl (by decide) (by decide +kernel) rfl rfl rfl (Nat.le_of_ble_eq_true rfl) rfl w_715 dJx4a65c_init_da8c8_8 (fun h_2 f_1 o_1 => ?_)
  exact aw_return dJx4a65c_init_da8c8_11 rfl ⟨_, rfl, rfl, rfl, f_1, fun b hb => (o_1 b hb).trans (o2 b hb)⟩ (Nat.le_of_ble_eq_true rfl) (Nat.le_of_ble_eq_true rfl)
set_option maxHeartbeats 4000000 in
set_option maxRecDepth 20000 in
/-- size() -/
theorem c_Lsize (G : aG) {h : aH} {nx k a : Nat} {own : Nat → Nat} {xs : List Nat} (hL : LsAt G own h k a xs)  : aMet G mJx4a65c_size_8abf5 0 0 0 [.ref (a)] h nx (pI (nI xs.length) h nx) := by
  refine aMet_ofF (by decide +kernel) (Nat.le_of_ble_eq_true rfl) ?_
  show aw G mJx4a65c_size_8abf5 [] (aRoom 0 0 0) (aEnd G (pI (nI xs.length) h nx) 0 0) 0 0 h nx 0 [(0, .ref (a))] []
  obtain ⟨y_11, y_1m, y_1e, y_12, y_13, y_14⟩ := hL
  refine aw_aload_n dJx4a65c_size_8abf5_0 rfl ?_
  refine aw_get 2 y_12 rfl rfl (by decide) w_718 rfl dJx4a65c_size_8abf5_1 ?_
  exact aw_ireturn dJx4a65c_size_8abf5_4 rfl ⟨rfl, rfl, rfl⟩ (Nat.le_of_ble_eq_true rfl) (Nat.le_of_ble_eq_true rfl)
set_option maxHeartbeats 4000000 in
set_option maxRecDepth 20000 in
/-- Preconditions.checkIndex -/
theorem c_check3 (G : aG) {h : aH} {nx i n : Nat} (hi : i < n) (hn : n < 2 ^ 31) : aMet G mJ3_checkIndex_8e157 0 0 0 [.int (nI (i)), .int (nI (n)), .null] h nx (pI (nI i) h nx) := by
  refine aMet_ofF (by decide +kernel) (Nat.le_of_ble_eq_true rfl) ?_
  show aw G mJ3_checkIndex_8e157 [] (aRoom 0 0 0) (aEnd G (pI (nI i) h nx) 0 0) 0 0 h nx 0 [(0, .int (nI (i))), (1, .int (nI (n))), (2, .null)] []
  refine aw_iload_n dJ3_checkIndex_8e157_0 rfl ?_
  refine aw_if_ltN (tgt := 9) (by omega) dJ3_checkIndex_8e157_1 (by decide) ?_
  refine aw_iload_n dJ3_checkIndex_8e157_4 rfl ?_
  refine aw_iload_n dJ3_checkIndex_8e157_5 rfl ?_
  refine aw_icmp_ltN (tgt := 16) (by omega) (by omega) dJ3_checkIndex_8e157_6 (by decide) (fun c1 => ?_) (fun c1 => absurd c1 (by omega))
  refine aw_iload_n dJ3_checkIndex_8e157_16 rfl ?_
  exact aw_ireturn dJ3_checkIndex_8e157_17 rfl ⟨rfl, rfl, rfl⟩ (Nat.le_of_ble_eq_true rfl) (Nat.le_of_ble_eq_true rfl)
set_option maxHeartbeats 4000000 in
set_option maxRecDepth 20000 in
/-- Objects.checkIndex -/
theorem c_check (G : aG) {h : aH} {nx i n : Nat} (hi : i < n) (hn : n < 2 ^ 31) : aMet G mJ15_checkIndex_7cf53 1 0 0 [.int (nI (i)), .int (nI (n))] h nx (pI (nI i) h nx) := by
  refine aMet_ofF (by decide +kernel) (Nat.le_of_ble_eq_true rfl) ?_
  show aw G mJ15_checkIndex_7cf53 [] (aRoom 1 0 0) (aEnd G (pI (nI i) h nx) 0 0) 0 0 h nx 0 [(0, .int (nI (i))), (1, .int (nI (n)))] []
  refine aw_iload_n dJ15_checkIndex_7cf53_0 rfl ?_
  refine aw_iload_n dJ15_checkIndex_7cf53_1 rfl ?_
  refine aw_null dJ15_checkIndex_7cf53_2 ?_
  refine aw_callSR (As := [.int (nI (i)), .int (nI (n)), .null]) (rest := []) (c_check3 G hi hn) kJ3_checkIndex_8e157 w_861 rfl rfl (Nat.le_of_ble_eq_true rfl) dJ15_checkIndex_7cf53_3 ⟨Nat.le_of_ble_eq_true rfl, Nat.le_of_ble_eq_true rfl⟩ ⟨Nat.le_of_ble_eq_true rfl, Nat.le_of_ble_eq_true rfl⟩ ?_
  exact aw_ireturn dJ15_checkIndex_7cf53_6 rfl ⟨rfl, rfl, rfl⟩ (Nat.le_of_ble_eq_true rfl) (Nat.le_of_ble_eq_true rfl)
set_option maxHeartbeats 4000000 in
set_option maxRecDepth 20000 in
/-- elementData(i) -/
theorem c_Ledata (G : aG) {h : aH} {nx k a : Nat} {own : Nat → Nat} {xs : List Nat} (hL : LsAt G own h k a xs) {i : Nat} (hi : i < xs.length) : aMet G mJx4a65c_elementData_915e3 0 0 0 [.ref (a), .int (nI (i))] h nx (pR (some (.ref (xs.getD i 0))) h nx) := by
  refine aMet_ofF (by decide +kernel) (Nat.le_of_ble_eq_true rfl) ?_
  show aw G mJx4a65c_elementData_915e3 [] (aRoom 0 0 0) (aEnd G (pR (some (.ref (xs.getD i 0))) h nx) 0 0) 0 0 h nx 0 [(0, .ref (a)), (1, .int (nI (i)))] []
  obtain ⟨y_11, y_1m, y_1e, y_12, y_13, y_14⟩ := hL
  rcases y_14 with ⟨-, y_1z⟩ | ⟨y_15, y_1c, y_1f, y_16, y_17, y_18, y_19, y_1a⟩
  · rw [y_1z] at hi; exact absurd hi (Nat.not_lt_zero _)
  refine aw_aload_n dJx4a65c_elementData_915e3_0 rfl ?_
  refine aw_get 1 y_12 rfl rfl (by decide) w_715 rfl dJx4a65c_elementData_915e3_1 ?_
  refine aw_iload_n dJx4a65c_elementData_915e3_4 rfl ?_
  refine aw_aaloadO y_16 (by omega) (by omega) dJx4a65c_elementData_915e3_5 ?_
  refine aw_to ?_ rfl (show ([va_rf (y_1f i)] : List Value) = ([.ref (xs.getD i 0)] : List Value) from by rw [y_1a i hi]; rfl) rfl
  exact aw_areturn dJx4a65c_elementData_915e3_6 rfl (Or.inl ⟨_, rfl⟩) (Or.inr ⟨_, rfl⟩) ⟨rfl, rfl, rfl⟩ (Nat.le_of_ble_eq_true rfl) (Nat.le_of_ble_eq_true rfl)
set_option maxHeartbeats 4000000 in
set_option maxRecDepth 20000 in
/-- get(i) -/
theorem c_Lget (G : aG) {h : aH} {nx k a : Nat} {own : Nat → Nat} {xs : List Nat} (hL : LsAt G own h k a xs) {i : Nat} (hi : i < xs.length) (hn : xs.length < 2 ^ 31) : aMet G mJx4a65c_get_915e3 2 0 0 [.ref (a), .int (nI (i))] h nx (pR (some (.ref (xs.getD i 0))) h nx) := by
  have hL0 := hL
  refine aMet_ofF (by decide +kernel) (Nat.le_of_ble_eq_true rfl) ?_
  show aw G mJx4a65c_get_915e3 [] (aRoom 2 0 0) (aEnd G (pR (some (.ref (xs.getD i 0))) h nx) 0 0) 0 0 h nx 0 [(0, .ref (a)), (1, .int (nI (i)))] []
  obtain ⟨y_11, y_1m, y_1e, y_12, y_13, y_14⟩ := hL
  refine aw_iload_n dJx4a65c_get_915e3_0 rfl ?_
  refine aw_aload_n dJx4a65c_get_915e3_1 rfl ?_
  refine aw_get 2 y_12 rfl rfl (by decide) w_718 rfl dJx4a65c_get_915e3_2 ?_
  refine aw_callSR (As := [.int (nI (i)), .int (nI (xs.length))]) (rest := []) (c_check G hi hn) kJ15_checkIndex_7cf53 w_858 rfl rfl (Nat.le_of_ble_eq_true rfl) dJx4a65c_get_915e3_5 ⟨Nat.le_of_ble_eq_true rfl, Nat.le_of_ble_eq_true rfl⟩ ⟨Nat.le_of_ble_eq_true rfl, Nat.le_of_ble_eq_true rfl⟩ ?_
  refine aw_pop dJx4a65c_get_915e3_8 rfl ?_
  refine aw_aload_n dJx4a65c_get_915e3_9 rfl ?_
  refine aw_iload_n dJx4a65c_get_915e3_10 rfl ?_
  refine aw_callVR (As := [.int (nI (i))]) (rest := []) (c_Ledata G hL0 hi) kJx4a65c_elementData_915e3 w_864 y_12 rfl rfl rfl rfl (Nat.le_of_ble_eq_true rfl) dJx4a65c_get_915e3_11 ⟨Nat.le_of_ble_eq_true rfl, Nat.le_of_ble_eq_true rfl⟩ ⟨Nat.le_of_ble_eq_true rfl, Nat.le_of_ble_eq_true rfl⟩ ?_
  exact aw_areturn dJx4a65c_get_915e3_14 rfl (Or.inl ⟨_, rfl⟩) (Or.inr ⟨_, rfl⟩) ⟨rfl, rfl, rfl⟩ (Nat.le_of_ble_eq_true rfl) (Nat.le_of_ble_eq_true rfl)
set_option maxHeartbeats 4000000 in
set_option maxRecDepth 20000 in
/-- Arrays.copyOf -/
theorem c_copyOf3 (G : aG) {h : aH} {nx e cap nn mi : Nat} {f : Nat → Option Nat} (f0 : h e = some (.inl (4, cap, .inr (.inr (.inr (.inr f)))))) (hel : ∀ i, i < cap → ∀ y, f i = some y → aStor h y ∧ y ≠ nx) (hen : e < nx) (hcn : cap ≤ nn) (hnn : nn ≤ 4096) : ∀ l : Launch, l.stackTraces = false → vx_Met l mJ7_copyOf_6403c.1 (aws mJ7_copyOf_6403c) (aRoom 1 1 nn) (aPcM G [.ref e, .int (nI nn), .ref mi] h nx mi) (aQc G (pQ (fun v h1 n1 => v = some (.ref nx) ∧ n1 = nx + 1 ∧ (∃ g : Nat → Option Nat, h1 nx = some (.inl (4, nn, .inr (.inr (.inr (.inr g))))) ∧ ∀ i, i < cap → g i = f i) ∧ ∀ b, b < nx → h1 b = h b))) (aXC G (pQ (fun v h1 n1 => v = some (.ref nx) ∧ n1 = nx + 1 ∧ (∃ g : Nat → Option Nat, h1 nx = some (.inl (4, nn, .inr (.inr (.inr (.inr g))))) ∧ ∀ i, i < cap → g i = f i) ∧ ∀ b, b < nx → h1 b = h b))) 1 nn (aBs G) := by
  have J : aw G mJ7_copyOf_6403c [] (aRoom 1 1 nn) (aEnd G (pQ (fun v h1 n1 => v = some (.ref nx) ∧ n1 = nx + 1 ∧ (∃ g : Nat → Option Nat, h1 nx = some (.inl (4, nn, .inr (.inr (.inr (.inr g))))) ∧ ∀ i, i < cap → g i = f i) ∧ ∀ b, b < nx → h1 b = h b)) 1 nn) 0 0 h nx 6 [(0, .ref (e)), (1, .int (nI (nn))), (2, .ref (mi))] [] := by
    refine aw_iload_n dJ7_copyOf_6403c_6 rfl ?_
    refine aw_anewOV (by omega) w_841 (Nat.le_of_ble_eq_true rfl) (show 0 + nn ≤ nn by omega) dJ7_copyOf_6403c_7 (fun h_1 f_1 o_1 => ?_)
    have f_2 := (o_1 e (by omega)).trans f0
    refine aw_goto (tgt := 24) dJ7_copyOf_6403c_10 (by decide) ?_
    refine aw_astore_n (L' := [(3, .ref (nx)), (0, .ref (e)), (1, .int (nI (nn))), (2, .ref (mi))]) dJ7_copyOf_6403c_24 (by decide) rfl ?_
    refine aw_aload_n dJ7_copyOf_6403c_25 rfl ?_
    refine aw_ic dJ7_copyOf_6403c_26 ic_0 ?_
    refine aw_aload_n dJ7_copyOf_6403c_27 rfl ?_
    refine aw_ic dJ7_copyOf_6403c_28 ic_0 ?_
    refine aw_aload_n dJ7_copyOf_6403c_29 rfl ?_
    refine aw_lenO f_2 dJ7_copyOf_6403c_30 ?_
    refine aw_iload_n dJ7_copyOf_6403c_31 rfl ?_
    refine aw_min w_842 w_282 w_16 w_283 (Nat.le_of_ble_eq_true rfl) (Nat.le_of_ble_eq_true rfl) (Nat.le_of_ble_eq_true rfl) (show 0 + nn ≤ nn by omega) dJ7_copyOf_6403c_32 ?_
    refine aw_top (show (if (nI (nn)) < (nI (cap)) then (nI (nn)) else (nI (cap))) = (nI (cap)) from by rw [n_min _ _ (by omega) (by omega)]; congr 1; omega) ?_
    refine aw_copyO (sp := 0) (dp := 0) (n := cap) f_2 f_1 (by omega) (by omega) (by omega) (by omega) (fun i hi y hy => by rw [Nat.zero_add] at hy; exact (hel i hi y hy).1.keep (o_1 y (hel i hi y hy).2)) w_843 w_430 w_429 w_18 (Nat.le_of_ble_eq_true rfl) (Nat.le_of_ble_eq_true rfl) dJ7_copyOf_6403c_35 (fun h_2 f_3 o_2 => ?_)
    have f_4 := (o_2 e (by omega)).trans f_2
    refine aw_aload_n dJ7_copyOf_6403c_38 rfl ?_
    exact aw_areturn dJ7_copyOf_6403c_39 rfl (Or.inr ⟨_, rfl⟩) (Or.inr ⟨_, rfl⟩) ⟨_, rfl, rfl, rfl, ⟨_, f_3, fun i hi => cpy_lo hi⟩, fun b hb => ((o_2 b (by omega)).trans (o_1 b (by omega)))⟩ (by omega) (by omega)
  refine aMetM_ofF (by decide +kernel) (Nat.le_of_ble_eq_true rfl) ?_
  intro p l e2 s m args below meth c H locs ls C hM RR Z S V
  refine lv_aload_n C.1 C.2.1 dJ7_copyOf_6403c_0 rfl (aGet_at V (v := .ref mi) (i := 2) rfl) ?_
  refine va_ldcM (C := "[Ljava/lang/Object;") C.1 C.2.1 C.2.2.2.1 (C.2.2.2.2.1 _ (aWd_of w_839 rfl)) hM dJ7_copyOf_6403c_1 ?_
  refine lv_acmp_ne (rx := some mi) (ry := some mi) (tgt := 13) C.1 C.2.1 dJ7_copyOf_6403c_3 (by decide) (fun z => absurd rfl z) (fun _ => ?_)
  exact J p l e2 s m args below meth c H locs ls C RR Z S V
set_option maxHeartbeats 4000000 in
set_option maxRecDepth 20000 in
/-- Arrays.copyOf, of two -/
theorem c_copyOf2 (G : aG) {h : aH} {nx e cap nn : Nat} {f : Nat → Option Nat} (f0 : h e = some (.inl (4, cap, .inr (.inr (.inr (.inr f)))))) (hel : ∀ i, i < cap → ∀ y, f i = some y → aStor h y ∧ y ≠ nx) (hen : e < nx) (hcn : cap ≤ nn) (hnn : nn ≤ 4096) : aMet G mJ7_copyOf_1904c 2 1 nn [.ref (e), .int (nI (nn))] h nx (pQ (fun v h1 n1 => v = some (.ref nx) ∧ n1 = nx + 1 ∧ (∃ g : Nat → Option Nat, h1 nx = some (.inl (4, nn, .inr (.inr (.inr (.inr g))))) ∧ ∀ i, i < cap → g i = f i) ∧ ∀ b, b < nx → h1 b = h b)) := by
  refine aMet_ofF (by decide +kernel) (Nat.le_of_ble_eq_true rfl) ?_
  show aw G mJ7_copyOf_1904c [] (aRoom 2 1 nn) (aEnd G (pQ (fun v h1 n1 => v = some (.ref nx) ∧ n1 = nx + 1 ∧ (∃ g : Nat → Option Nat, h1 nx = some (.inl (4, nn, .inr (.inr (.inr (.inr g))))) ∧ ∀ i, i < cap → g i = f i) ∧ ∀ b, b < nx → h1 b = h b)) 1 nn) 0 0 h nx 0 [(0, .ref (e)), (1, .int (nI (nn)))] []
  refine aw_aload_n dJ7_copyOf_1904c_0 rfl ?_
  refine aw_iload_n dJ7_copyOf_1904c_1 rfl ?_
  refine aw_aload_n dJ7_copyOf_1904c_2 rfl ?_
  refine aw_getCcopy (fun mi => c_copyOf3 G f0 hel hen hcn hnn) f0 w_820 w_836 dJ7_copyOf_1904c_3 dJ7_copyOf_1904c_6 (Nat.le_of_ble_eq_true rfl) (Nat.le_of_ble_eq_true rfl) ⟨Nat.le_of_ble_eq_true rfl, Nat.le_of_ble_eq_true rfl⟩ ⟨by show 0 + 1 ≤ 1; omega, by show 0 + nn ≤ nn; omega⟩ (fun v_1 h_1 n_1 q_1 z_1 => ?_) (fun E h1 n1 q => by obtain ⟨v, q, -⟩ := q; cases q)
  obtain ⟨v9, hv9, rfl, rfl, q3, q4⟩ := q_1
  cases hv9
  exact aw_areturn dJ7_copyOf_1904c_9 rfl (Or.inr ⟨_, rfl⟩) (Or.inr ⟨_, rfl⟩) ⟨_, rfl, rfl, rfl, q3, q4⟩ (by omega) (by omega)
set_option maxHeartbeats 4000000 in
set_option maxRecDepth 20000 in
/-- newLength(o, 1, p) -/
theorem c_newLen (G : aG) {h : aH} {nx o p : Nat} (ho : o < 2 ^ 29) (hp : p < 2 ^ 29) (h0 : 0 < o) : aMet G mJ8_newLength_cabcc 1 0 0 [.int (nI (o)), .int (nI (1)), .int (nI (p))] h nx (pI (nI (o + max 1 p)) h nx) := by
  refine aMet_ofF (by decide +kernel) (Nat.le_of_ble_eq_true rfl) ?_
  show aw G mJ8_newLength_cabcc [] (aRoom 1 0 0) (aEnd G (pI (nI (o + max 1 p)) h nx) 0 0) 0 0 h nx 0 [(0, .int (nI (o))), (1, .int (nI (1))), (2, .int (nI (p)))] []
  refine aw_iload_n dJ8_newLength_cabcc_0 rfl ?_
  refine aw_iload_n dJ8_newLength_cabcc_1 rfl ?_
  refine aw_iload_n dJ8_newLength_cabcc_2 rfl ?_
  refine aw_max w_812 w_315 w_16 w_316 (Nat.le_of_ble_eq_true rfl) (Nat.le_of_ble_eq_true rfl) (Nat.le_of_ble_eq_true rfl) (Nat.le_of_ble_eq_true rfl) dJ8_newLength_cabcc_3 ?_
  refine aw_top (show (if (nI (1)) < (nI (p)) then (nI (p)) else (nI (1))) = (nI (max 1 p)) from by rw [n_max _ _ (by omega) (by omega)]) ?_
  refine aw_iaddN dJ8_newLength_cabcc_6 ?_
  refine aw_istore_n (L' := [(3, .int (nI (o + (max 1 p)))), (0, .int (nI (o))), (1, .int (nI (1))), (2, .int (nI (p)))]) dJ8_newLength_cabcc_7 (by decide) rfl ?_
  refine aw_ic dJ8_newLength_cabcc_8 ic_0 ?_
  refine aw_iload_n dJ8_newLength_cabcc_9 rfl ?_
  refine aw_icmp_geN (tgt := 21) (by omega) (by omega) dJ8_newLength_cabcc_10 (by decide) (fun c1 => absurd c1 (by omega)) (fun c1 => ?_)
  refine aw_iload_n dJ8_newLength_cabcc_13 rfl ?_
  refine aw_ldc dJ8_newLength_cabcc_14 w_813 ?_
  refine aw_top (show (2147483639 : Int32) = nI 2147483639 by decide) ?_
  refine aw_icmp_gtN (tgt := 21) (by omega) (by omega) dJ8_newLength_cabcc_16 (by decide) (fun c2 => absurd c2 (by omega)) (fun c2 => ?_)
  refine aw_iload_n dJ8_newLength_cabcc_19 rfl ?_
  exact aw_ireturn dJ8_newLength_cabcc_20 rfl ⟨rfl, rfl, rfl⟩ (Nat.le_of_ble_eq_true rfl) (Nat.le_of_ble_eq_true rfl)
set_option maxHeartbeats 4000000 in
set_option maxRecDepth 20000 in
/-- grow(1) of an empty list -/
theorem c_growE (G : aG) {h : aH} {nx a : Nat} {md : Int32} (e2 : h a = some (.inr (1, [.int md, .ref G.2.2.2, .int (nI 0)]))) (han : a < nx) : aMet G mJx4a65c_grow_92f84 1 1 10 [.ref (a), .int (nI (1))] h nx (pQ (fun v h1 n1 => v = some (.ref nx) ∧ n1 = nx + 1 ∧ h1 a = some (.inr (1, [.int md, .ref nx, .int (nI 0)])) ∧ (∃ g : Nat → Option Nat, h1 nx = some (.inl (4, 10, .inr (.inr (.inr (.inr g)))))) ∧ ∀ b, b < nx → b ≠ a → h1 b = h b)) := by
  refine aMet_ofF (by decide +kernel) (Nat.le_of_ble_eq_true rfl) ?_
  show aw G mJx4a65c_grow_92f84 [] (aRoom 1 1 10) (aEnd G (pQ (fun v h1 n1 => v = some (.ref nx) ∧ n1 = nx + 1 ∧ h1 a = some (.inr (1, [.int md, .ref nx, .int (nI 0)])) ∧ (∃ g : Nat → Option Nat, h1 nx = some (.inl (4, 10, .inr (.inr (.inr (.inr g)))))) ∧ ∀ b, b < nx → b ≠ a → h1 b = h b)) 1 10) 0 0 h nx 0 [(0, .ref (a)), (1, .int (nI (1)))] []
  refine aw_aload_n dJx4a65c_grow_92f84_0 rfl ?_
  refine aw_get 1 e2 rfl rfl (by decide) w_715 rfl dJx4a65c_grow_92f84_1 ?_
  refine aw_lenE dJx4a65c_grow_92f84_4 ?_
  refine aw_istore_n (L' := [(2, .int (nI (0))), (0, .ref (a)), (1, .int (nI (1)))]) dJx4a65c_grow_92f84_5 (by decide) rfl ?_
  refine aw_iload_n dJx4a65c_grow_92f84_6 rfl ?_
  refine aw_if_gtN (tgt := 20) (by omega) dJx4a65c_grow_92f84_7 (by decide) (fun c1 => absurd c1 (by omega)) (fun c1 => ?_)
  refine aw_aload_n dJx4a65c_grow_92f84_10 rfl ?_
  refine aw_get 1 e2 rfl rfl (by decide) w_715 rfl dJx4a65c_grow_92f84_11 ?_
  refine aw_getsE w_713 dJx4a65c_grow_92f84_14 ?_
  refine aw_acmp_eq (rx := some G.2.2.2) (ry := some G.2.2.2) (tgt := 45) dJx4a65c_grow_92f84_17 (by decide) (fun _ => ?_) (fun z => absurd rfl z)
  refine aw_aload_n dJx4a65c_grow_92f84_45 rfl ?_
  refine aw_bp (v := 10) dJx4a65c_grow_92f84_46 (by decide) ?_
  refine aw_iload_n dJx4a65c_grow_92f84_48 rfl ?_
  refine aw_max w_844 w_315 w_16 w_316 (Nat.le_of_ble_eq_true rfl) (Nat.le_of_ble_eq_true rfl) (Nat.le_of_ble_eq_true rfl) (Nat.le_of_ble_eq_true rfl) dJx4a65c_grow_92f84_49 ?_
  refine aw_top (show (if (nI (10)) < (nI (1)) then (nI (1)) else (nI (10))) = (nI (10)) from by decide) ?_
  refine aw_anewOV (by decide) w_845 (Nat.le_of_ble_eq_true rfl) (Nat.le_of_ble_eq_true rfl) dJx4a65c_grow_92f84_52 (fun h_1 f_1 o_1 => ?_)
  have f_2 := (o_1 a (by omega)).trans e2
  refine aw_dup_x1 dJx4a65c_grow_92f84_55 rfl rfl ?_
  refine aw_putV (v := .ref (nx)) (ty := (.array (.object "java/lang/Object"))) (fs' := [.int (md), .ref (nx), .int (nI (0))]) 1 f_2 rfl rfl (by decide) (by decide +kernel) rfl rfl rfl (Nat.le_of_ble_eq_true rfl) rfl w_715 dJx4a65c_grow_92f84_56 (fun h_2 f_3 o_2 => ?_)
  have f_4 := (o_2 nx (by omega)).trans f_1
  exact aw_areturn dJx4a65c_grow_92f84_59 rfl (Or.inr ⟨_, rfl⟩) (Or.inr ⟨_, rfl⟩) ⟨_, rfl, rfl, rfl, f_3, ⟨_, f_4⟩, fun b hb hba => ((o_2 b (by omega)).trans (o_1 b (by omega)))⟩ (Nat.le_of_ble_eq_true rfl) (Nat.le_of_ble_eq_true rfl)
set_option maxHeartbeats 4000000 in
set_option maxRecDepth 20000 in
/-- grow() of an empty list -/
theorem c_growE0 (G : aG) {h : aH} {nx a : Nat} {md : Int32} (e2 : h a = some (.inr (1, [.int md, .ref G.2.2.2, .int (nI 0)]))) (han : a < nx) : aMet G mJx4a65c_grow_d5877 2 1 10 [.ref (a)] h nx (pQ (fun v h1 n1 => v = some (.ref nx) ∧ n1 = nx + 1 ∧ h1 a = some (.inr (1, [.int md, .ref nx, .int (nI 0)])) ∧ (∃ g : Nat → Option Nat, h1 nx = some (.inl (4, 10, .inr (.inr (.inr (.inr g)))))) ∧ ∀ b, b < nx → b ≠ a → h1 b = h b)) := by
  refine aMet_ofF (by decide +kernel) (Nat.le_of_ble_eq_true rfl) ?_
  show aw G mJx4a65c_grow_d5877 [] (aRoom 2 1 10) (aEnd G (pQ (fun v h1 n1 => v = some (.ref nx) ∧ n1 = nx + 1 ∧ h1 a = some (.inr (1, [.int md, .ref nx, .int (nI 0)])) ∧ (∃ g : Nat → Option Nat, h1 nx = some (.inl (4, 10, .inr (.inr (.inr (.inr g)))))) ∧ ∀ b, b < nx → b ≠ a → h1 b = h b)) 1 10) 0 0 h nx 0 [(0, .ref (a))] []
  refine aw_aload_n dJx4a65c_grow_d5877_0 rfl ?_
  refine aw_aload_n dJx4a65c_grow_d5877_1 rfl ?_
  refine aw_get 2 e2 rfl rfl (by decide) w_718 rfl dJx4a65c_grow_d5877_2 ?_
  refine aw_ic dJx4a65c_grow_d5877_5 ic_1 ?_
  refine aw_iaddN dJx4a65c_grow_d5877_6 ?_
  refine aw_callVQ (As := [.int (nI (0 + 1))]) (rest := []) (c_growE G e2 han) kJx4a65c_grow_92f84 w_805 e2 rfl rfl rfl rfl (Nat.le_of_ble_eq_true rfl) dJx4a65c_grow_d5877_7 ⟨Nat.le_of_ble_eq_true rfl, Nat.le_of_ble_eq_true rfl⟩ ⟨Nat.le_of_ble_eq_true rfl, Nat.le_of_ble_eq_true rfl⟩ (fun v_1 h_1 n_1 q_1 z_1 => ?_)
  obtain ⟨rfl, rfl, q1, q2, q3⟩ := q_1
  exact aw_areturn dJx4a65c_grow_d5877_10 rfl (Or.inr ⟨_, rfl⟩) (Or.inr ⟨_, rfl⟩) ⟨_, rfl, rfl, rfl, q1, q2, q3⟩ (Nat.le_of_ble_eq_true rfl) (Nat.le_of_ble_eq_true rfl)
set_option maxHeartbeats 4000000 in
set_option maxRecDepth 20000 in
/-- grow of a full list -/
theorem c_growA (G : aG) {h : aH} {nx a e cap : Nat} {f : Nat → Option Nat} {md : Int32} (e2 : h a = some (.inr (1, [.int md, .ref e, .int (nI cap)]))) (han : a < nx) (f0 : h e = some (.inl (4, cap, .inr (.inr (.inr (.inr f)))))) (hel : ∀ i, i < cap → ∀ y, f i = some y → aStor h y ∧ y ≠ nx) (hen : e < nx) (hc0 : 0 < cap) (hc : cap ≤ 40) : aMet G mJx4a65c_grow_92f84 3 1 60 [.ref (a), .int (nI (cap + 1))] h nx (pQ (fun v h1 n1 => v = some (.ref nx) ∧ n1 = nx + 1 ∧ h1 a = some (.inr (1, [.int md, .ref nx, .int (nI cap)])) ∧ (∃ g : Nat → Option Nat, h1 nx = some (.inl (4, cap + max 1 (cap / 2), .inr (.inr (.inr (.inr g))))) ∧ ∀ i, i < cap → g i = f i) ∧ ∀ b, b < nx → b ≠ a → h1 b = h b)) := by
  refine aMet_ofF (by decide +kernel) (Nat.le_of_ble_eq_true rfl) ?_
  show aw G mJx4a65c_grow_92f84 [] (aRoom 3 1 60) (aEnd G (pQ (fun v h1 n1 => v = some (.ref nx) ∧ n1 = nx + 1 ∧ h1 a = some (.inr (1, [.int md, .ref nx, .int (nI cap)])) ∧ (∃ g : Nat → Option Nat, h1 nx = some (.inl (4, cap + max 1 (cap / 2), .inr (.inr (.inr (.inr g))))) ∧ ∀ i, i < cap → g i = f i) ∧ ∀ b, b < nx → b ≠ a → h1 b = h b)) 1 60) 0 0 h nx 0 [(0, .ref (a)), (1, .int (nI (cap + 1)))] []
  refine aw_aload_n dJx4a65c_grow_92f84_0 rfl ?_
  refine aw_get 1 e2 rfl rfl (by decide) w_715 rfl dJx4a65c_grow_92f84_1 ?_
  refine aw_lenO f0 dJx4a65c_grow_92f84_4 ?_
  refine aw_istore_n (L' := [(2, .int (nI (cap))), (0, .ref (a)), (1, .int (nI (cap + 1)))]) dJx4a65c_grow_92f84_5 (by decide) rfl ?_
  refine aw_iload_n dJx4a65c_grow_92f84_6 rfl ?_
  refine aw_if_gtN (tgt := 20) (by omega) dJx4a65c_grow_92f84_7 (by decide) (fun c1 => ?_) (fun c1 => absurd c1 (by omega))
  refine aw_iload_n dJx4a65c_grow_92f84_20 rfl ?_
  refine aw_iload_n dJx4a65c_grow_92f84_21 rfl ?_
  refine aw_iload_n dJx4a65c_grow_92f84_22 rfl ?_
  refine aw_isubN (by omega) dJx4a65c_grow_92f84_23 ?_
  refine aw_iload_n dJx4a65c_grow_92f84_24 rfl ?_
  refine aw_ic dJx4a65c_grow_92f84_25 ic_1 ?_
  refine aw_ishr dJx4a65c_grow_92f84_26 ?_
  refine aw_top (show ((nI (cap)) >>> ((nI (1)) &&& 31)) = (nI (cap / 2)) from n_half (by omega)) ?_
  rw [show cap + 1 - cap = 1 by omega]
  refine aw_callSR (As := [.int (nI (cap)), .int (nI (1)), .int (nI (cap / 2))]) (rest := []) (c_newLen G (o := cap) (p := cap / 2) (by omega) (by omega) hc0) kJ8_newLength_cabcc w_809 rfl rfl (Nat.le_of_ble_eq_true rfl) dJx4a65c_grow_92f84_27 ⟨Nat.le_of_ble_eq_true rfl, Nat.le_of_ble_eq_true rfl⟩ ⟨Nat.le_of_ble_eq_true rfl, Nat.le_of_ble_eq_true rfl⟩ ?_
  refine aw_istore_n (L' := [(3, .int (nI (cap + max 1 (cap / 2)))), (2, .int (nI (cap))), (0, .ref (a)), (1, .int (nI (cap + 1)))]) dJx4a65c_grow_92f84_30 (by decide) rfl ?_
  refine aw_aload_n dJx4a65c_grow_92f84_31 rfl ?_
  refine aw_aload_n dJx4a65c_grow_92f84_32 rfl ?_
  refine aw_get 1 e2 rfl rfl (by decide) w_715 rfl dJx4a65c_grow_92f84_33 ?_
  refine aw_iload_n dJx4a65c_grow_92f84_36 rfl ?_
  refine aw_callSQ (As := [.ref (e), .int (nI (cap + max 1 (cap / 2)))]) (rest := [.ref (a)]) (c_copyOf2 G (nn := cap + max 1 (cap / 2)) f0 hel hen (by omega) (by omega)) kJ7_copyOf_1904c w_817 rfl rfl (Nat.le_of_ble_eq_true rfl) dJx4a65c_grow_92f84_37 ⟨Nat.le_of_ble_eq_true rfl, Nat.le_of_ble_eq_true rfl⟩ ⟨(show 0 + 1 ≤ 1 by omega), (show 0 + (cap + max 1 (cap / 2)) ≤ 60 by omega)⟩ (fun v_1 h_1 n_1 q_1 z_1 => ?_)
  obtain ⟨rfl, rfl, ⟨g, q1, q2⟩, q3⟩ := q_1
  have e3 := (q3 a han).trans e2
  refine aw_dup_x1 dJx4a65c_grow_92f84_40 rfl rfl ?_
  refine aw_putV (v := .ref (nx)) (ty := (.array (.object "java/lang/Object"))) (fs' := [.int (md), .ref (nx), .int (nI (cap))]) 1 e3 rfl rfl (by decide) (by decide +kernel) rfl rfl rfl (Nat.le_of_ble_eq_true rfl) rfl w_715 dJx4a65c_grow_92f84_41 (fun h_2 f_1 o_1 => ?_)
  have f_2 := (o_1 nx (by omega)).trans q1
  exact aw_areturn dJx4a65c_grow_92f84_44 rfl (Or.inr ⟨_, rfl⟩) (Or.inr ⟨_, rfl⟩) ⟨_, rfl, rfl, rfl, f_1, ⟨g, f_2, q2⟩, fun b hb hba => (o_1 b hba).trans (q3 b hb)⟩ (by omega) (by omega)
set_option maxHeartbeats 4000000 in
set_option maxRecDepth 20000 in
/-- grow() of a full list -/
theorem c_growA0 (G : aG) {h : aH} {nx a e cap : Nat} {f : Nat → Option Nat} {md : Int32} (e2 : h a = some (.inr (1, [.int md, .ref e, .int (nI cap)]))) (han : a < nx) (f0 : h e = some (.inl (4, cap, .inr (.inr (.inr (.inr f)))))) (hel : ∀ i, i < cap → ∀ y, f i = some y → aStor h y ∧ y ≠ nx) (hen : e < nx) (hc0 : 0 < cap) (hc : cap ≤ 40) : aMet G mJx4a65c_grow_d5877 4 1 60 [.ref (a)] h nx (pQ (fun v h1 n1 => v = some (.ref nx) ∧ n1 = nx + 1 ∧ h1 a = some (.inr (1, [.int md, .ref nx, .int (nI cap)])) ∧ (∃ g : Nat → Option Nat, h1 nx = some (.inl (4, cap + max 1 (cap / 2), .inr (.inr (.inr (.inr g))))) ∧ ∀ i, i < cap → g i = f i) ∧ ∀ b, b < nx → b ≠ a → h1 b = h b)) := by
  refine aMet_ofF (by decide +kernel) (Nat.le_of_ble_eq_true rfl) ?_
  show aw G mJx4a65c_grow_d5877 [] (aRoom 4 1 60) (aEnd G (pQ (fun v h1 n1 => v = some (.ref nx) ∧ n1 = nx + 1 ∧ h1 a = some (.inr (1, [.int md, .ref nx, .int (nI cap)])) ∧ (∃ g : Nat → Option Nat, h1 nx = some (.inl (4, cap + max 1 (cap / 2), .inr (.inr (.inr (.inr g))))) ∧ ∀ i, i < cap → g i = f i) ∧ ∀ b, b < nx → b ≠ a → h1 b = h b)) 1 60) 0 0 h nx 0 [(0, .ref (a))] []
  refine aw_aload_n dJx4a65c_grow_d5877_0 rfl ?_
  refine aw_aload_n dJx4a65c_grow_d5877_1 rfl ?_
  refine aw_get 2 e2 rfl rfl (by decide) w_718 rfl dJx4a65c_grow_d5877_2 ?_
  refine aw_ic dJx4a65c_grow_d5877_5 ic_1 ?_
  refine aw_iaddN dJx4a65c_grow_d5877_6 ?_
  refine aw_callVQ (As := [.int (nI (cap + 1))]) (rest := []) (c_growA G e2 han f0 hel hen hc0 hc) kJx4a65c_grow_92f84 w_805 e2 rfl rfl rfl rfl (Nat.le_of_ble_eq_true rfl) dJx4a65c_grow_d5877_7 ⟨Nat.le_of_ble_eq_true rfl, Nat.le_of_ble_eq_true rfl⟩ ⟨Nat.le_of_ble_eq_true rfl, Nat.le_of_ble_eq_true rfl⟩ (fun v_1 h_1 n_1 q_1 z_1 => ?_)
  obtain ⟨rfl, rfl, q1, q2, q3⟩ := q_1
  exact aw_areturn dJx4a65c_grow_d5877_10 rfl (Or.inr ⟨_, rfl⟩) (Or.inr ⟨_, rfl⟩) ⟨_, rfl, rfl, rfl, q1, q2, q3⟩ (Nat.le_of_ble_eq_true rfl) (Nat.le_of_ble_eq_true rfl)
set_option maxHeartbeats 4000000 in
set_option maxRecDepth 20000 in
/-- add(x, es, s) -/
theorem c_Ladd3 (G : aG) {h : aH} {nx k a x e : Nat} {own : Nat → Nat} {xs : List Nat} {md : Int32} (e1 : own a = k) (e2 : h a = some (.inr (1, [.int md, .ref e, .int (nI xs.length)]))) (e3 : a ≠ e) (e4 : EsAt G own h k e xs) (ho : ∀ b, nx ≤ b → own b = 0) (hk : k ≠ 0) (hel : ∀ i, i < xs.length → aStor h (xs.getD i 0) ∧ own (xs.getD i 0) ≠ k ∧ xs.getD i 0 < nx) (hx : aStor h x ∧ own x ≠ k ∧ x < nx) (hlen : xs.length ≤ 40) : aMet G mJx4a65c_add_72be8 5 1 60 [.ref (a), .ref (x), .ref (e), .int (nI (xs.length))] h nx (pQ (fun v h1 n1 => v = none ∧ ∃ own1, Fr own own1 h h1 nx n1 (fun i => i = k) ∧ LsAt G own1 h1 k a (xs ++ [x]))) := by
  have han : a < nx := by rcases Nat.lt_or_ge a nx with z | z; exact z; exact absurd ((ho a z).symm.trans e1).symm hk
  refine aMet_of rfl (Nat.le_of_ble_eq_true rfl) ?_
  have J : ∀ (e2 cap nx2 : Nat) (f : Nat → Option Nat) (h2 : aH) (own2 : Nat → Nat), Fr own own2 h h2 nx nx2 (fun i => i = k) → own2 e2 = k → a ≠ e2 → h2 a = some (.inr (1, [.int md, .ref e2, .int (nI xs.length)])) → h2 e2 = some (.inl (4, cap, .inr (.inr (.inr (.inr f))))) → xs.length < cap → cap ≤ 60 → (∀ i, i < xs.length → f i = some (xs.getD i 0)) → aw G mJx4a65c_add_72be8 [] (aRoom 5 1 60) (aEnd G (pQ (fun v h1 n1 => v = none ∧ ∃ own1, Fr own own1 h h1 nx n1 (fun i => i = k) ∧ LsAt G own1 h1 k a (xs ++ [x]))) 1 60) 1 60 h2 nx2 11 [(0, .ref (a)), (1, .ref (x)), (2, .ref (e2)), (3, .int (nI (xs.length)))] [] := by
    intro e2 cap nx2 f h2 own2 hF hO2 hne q1 q2 hc1 hc2 hf
    refine aw_aload_n dJx4a65c_add_72be8_11 rfl ?_
    refine aw_iload_n dJx4a65c_add_72be8_12 rfl ?_
    refine aw_aload_n dJx4a65c_add_72be8_13 rfl ?_
    refine aw_aastO q2 (hx.1.keep (hF.2.2.2.2 x hx.2.2 hx.2.1)) hc1 (by omega) dJx4a65c_add_72be8_14 (fun h_1 f_1 o_1 => ?_)
    have f_2 := (o_1 a (by omega)).trans q1
    refine aw_aload_n dJx4a65c_add_72be8_15 rfl ?_
    refine aw_iload_n dJx4a65c_add_72be8_16 rfl ?_
    refine aw_ic dJx4a65c_add_72be8_17 ic_1 ?_
    refine aw_iaddN dJx4a65c_add_72be8_18 ?_
    refine aw_putV (v := .int (nI (xs.length + 1))) (ty := .int) (fs' := [.int (md), .ref (e2), .int (nI (xs.length + 1))]) 2 f_2 rfl rfl (by decide) (by decide +kernel) rfl rfl rfl (Nat.le_of_ble_eq_true rfl) rfl w_718 dJx4a65c_add_72be8_19 (fun h_2 f_3 o_2 => ?_)
    have f_4 := (o_2 e2 (by omega)).trans f_1
    have ho2 : ∀ b, own2 b ≠ k → b ≠ a ∧ b ≠ e2 := fun b hb => ⟨fun z => hb (by rw [z, hF.2.1 a han]; exact e1), fun z => hb (by rw [z]; exact hO2)⟩
    have hF2 : Fr own own2 h h_2 nx nx2 (fun i => i = k) := hF.tr ⟨Nat.le_refl _, fun _ _ => rfl, hF.2.2.1, fun b hb => Or.inl (hF.2.2.1 b hb), fun b hb hn => (o_2 b (ho2 b hn).1).trans (o_1 b (ho2 b hn).2)⟩
    refine aw_return dJx4a65c_add_72be8_22 rfl ⟨_, rfl, rfl, own2, hF2, (hF.2.1 a han).trans e1, md, e2, by rw [List.length_append]; exact f_3, hne, Or.inr ⟨hO2, cap, _, f_4, by rw [List.length_append]; exact hc1, by omega, hc2, fun i hi => ?_⟩⟩ (Nat.le_of_ble_eq_true rfl) (Nat.le_of_ble_eq_true rfl)
    rw [List.length_append] at hi
    unfold va_up
    by_cases z : i = xs.length
    · rw [if_pos z, z, gD_r]
    · have hi2 : i < xs.length := by simp at hi; omega
      rw [if_neg z, gD_l hi2]; exact hf i hi2
  show aw G mJx4a65c_add_72be8 [] (aRoom 5 1 60) (aEnd G (pQ (fun v h1 n1 => v = none ∧ ∃ own1, Fr own own1 h h1 nx n1 (fun i => i = k) ∧ LsAt G own1 h1 k a (xs ++ [x]))) 1 60) 0 0 h nx 0 [(0, .ref (a)), (1, .ref (x)), (2, .ref (e)), (3, .int (nI (xs.length)))] []
  have hon : ∀ b, (fun b => if b = nx then k else own b) b = if b = nx then k else own b := fun _ => rfl
  rcases e4 with ⟨rfl, hxs⟩ | ⟨e5, cap, f, e6, e7, e8, e9, ea⟩
  · skip
    have hl0 : xs.length = 0 := by rw [hxs]; rfl
    show aw G mJx4a65c_add_72be8 [] (aRoom 5 1 60) (aEnd G (pQ (fun v h1 n1 => v = none ∧ ∃ own1, Fr own own1 h h1 nx n1 (fun i => i = k) ∧ LsAt G own1 h1 k a (xs ++ [x]))) 1 60) 0 0 h nx 0 [(0, .ref (a)), (1, .ref (x)), (2, .ref (G.2.2.2)), (3, .int (nI (xs.length)))] []
    refine aw_iload_n dJx4a65c_add_72be8_0 rfl ?_
    refine aw_aload_n dJx4a65c_add_72be8_1 rfl ?_
    refine aw_lenE dJx4a65c_add_72be8_2 ?_
    refine aw_icmp_neN (tgt := 11) (by omega) (by omega) dJx4a65c_add_72be8_3 (by decide) (fun c1 => absurd c1 (by omega)) (fun c1 => ?_)
    refine aw_aload_n dJx4a65c_add_72be8_6 rfl ?_
    refine aw_callVQ (As := []) (rest := []) (c_growE0 G (md := md) (by rw [e2, hl0]) han) kJx4a65c_grow_d5877 w_801 e2 rfl rfl rfl rfl (Nat.le_of_ble_eq_true rfl) dJx4a65c_add_72be8_7 ⟨Nat.le_of_ble_eq_true rfl, Nat.le_of_ble_eq_true rfl⟩ ⟨Nat.le_of_ble_eq_true rfl, Nat.le_of_ble_eq_true rfl⟩ (fun v_1 h_3 n_1 q_1 z_1 => ?_)
    obtain ⟨rfl, rfl, q1, ⟨g, q2⟩, q3⟩ := q_1
    refine aw_astore_n (L' := [(2, .ref (nx)), (0, .ref (a)), (1, .ref (x)), (3, .int (nI (xs.length)))]) dJx4a65c_add_72be8_10 (by decide) rfl ?_
    refine aw_widen (cells' := 1) (slots' := 60) (by omega) (by omega) ?_
    refine aw_sub (L' := [(0, .ref (a)), (1, .ref (x)), (2, .ref (nx)), (3, .int (nI (xs.length)))]) [1, 2, 0, 3] rfl ?_
    exact J nx 10 (nx + 1) g h_3 (fun b => if b = nx then k else own b) ⟨by omega, fun b hb => if_neg (by omega), fun b hb => (by show (if b = nx then k else own b) = 0; rw [if_neg (by omega)]; exact ho b (by omega)), fun b hb => (by by_cases z : b = nx; exact Or.inr (Or.inr (if_pos z)); exact Or.inl (by show (if b = nx then k else own b) = 0; rw [if_neg z]; exact ho b hb)), fun b hb hn => q3 b hb (fun z => hn (by show own b = k; rw [z]; exact e1))⟩ (if_pos rfl) (by omega) (by rw [hl0]; exact q1) q2 (by omega) (by omega) (fun i hi => absurd hi (by omega))
  · skip
    have hen : e < nx := by rcases Nat.lt_or_ge e nx with z | z; exact z; exact absurd ((ho e z).symm.trans e5).symm hk
    refine aw_iload_n dJx4a65c_add_72be8_0 rfl ?_
    refine aw_aload_n dJx4a65c_add_72be8_1 rfl ?_
    refine aw_lenO e6 dJx4a65c_add_72be8_2 ?_
    refine aw_icmp_neN (tgt := 11) (by omega) (by omega) dJx4a65c_add_72be8_3 (by decide) (fun c1 => ?_) (fun c1 => ?_)
    · skip
      refine aw_widen (cells' := 1) (slots' := 60) (by omega) (by omega) ?_
      exact J e cap nx f h own (Fr.rf ho) e5 e3 e2 e6 (by omega) e9 ea
    · skip
      have hce : cap = xs.length := by omega
      subst hce
      refine aw_aload_n dJx4a65c_add_72be8_6 rfl ?_
      refine aw_callVQ (As := []) (rest := []) (c_growA0 G e2 han e6 (fun i hi z hz => by rw [ea i hi] at hz; cases hz; exact ⟨(hel i hi).1, by have := (hel i hi).2.2; omega⟩) hen e8 hlen) kJx4a65c_grow_d5877 w_801 e2 rfl rfl rfl rfl (Nat.le_of_ble_eq_true rfl) dJx4a65c_add_72be8_7 ⟨Nat.le_of_ble_eq_true rfl, Nat.le_of_ble_eq_true rfl⟩ ⟨Nat.le_of_ble_eq_true rfl, Nat.le_of_ble_eq_true rfl⟩ (fun v_2 h_4 n_2 q_2 z_2 => ?_)
      obtain ⟨rfl, rfl, q1, ⟨g, q2, q2b⟩, q3⟩ := q_2
      refine aw_astore_n (L' := [(2, .ref (nx)), (0, .ref (a)), (1, .ref (x)), (3, .int (nI (xs.length)))]) dJx4a65c_add_72be8_10 (by decide) rfl ?_
      refine aw_sub (L' := [(0, .ref (a)), (1, .ref (x)), (2, .ref (nx)), (3, .int (nI (xs.length)))]) [1, 2, 0, 3] rfl ?_
      exact J nx (xs.length + max 1 (xs.length / 2)) (nx + 1) g h_4 (fun b => if b = nx then k else own b) ⟨by omega, fun b hb => if_neg (by omega), fun b hb => (by show (if b = nx then k else own b) = 0; rw [if_neg (by omega)]; exact ho b (by omega)), fun b hb => (by by_cases z : b = nx; exact Or.inr (Or.inr (if_pos z)); exact Or.inl (by show (if b = nx then k else own b) = 0; rw [if_neg z]; exact ho b hb)), fun b hb hn => q3 b hb (fun z => hn (by show own b = k; rw [z]; exact e1))⟩ (if_pos rfl) (by omega) q1 q2 (by omega) (by omega) (fun i hi => (q2b i hi).trans (ea i hi))
set_option maxHeartbeats 4000000 in
set_option maxRecDepth 20000 in
/-- add(x) -/
theorem c_Ladd (G : aG) {h : aH} {nx k a : Nat} {own : Nat → Nat} {xs : List Nat} (hL : LsAt G own h k a xs) {x : Nat} (ho : ∀ b, nx ≤ b → own b = 0) (hk : k ≠ 0) (hel : ∀ i, i < xs.length → aStor h (xs.getD i 0) ∧ own (xs.getD i 0) ≠ k ∧ xs.getD i 0 < nx) (hx : aStor h x ∧ own x ≠ k ∧ x < nx) (hlen : xs.length ≤ 40) : aMet G mJx4a65c_add_9ea2d 6 1 60 [.ref (a), .ref (x)] h nx (pQ (fun v h1 n1 => v = some (.int (bI true)) ∧ ∃ own1, Fr own own1 h h1 nx n1 (fun i => i = k) ∧ LsAt G own1 h1 k a (xs ++ [x]))) := by
  have han : a < nx := by rcases Nat.lt_or_ge a nx with z | z; exact z; exact absurd ((ho a z).symm.trans hL.1).symm hk
  refine aMet_ofF (by decide +kernel) (Nat.le_of_ble_eq_true rfl) ?_
  show aw G mJx4a65c_add_9ea2d [] (aRoom 6 1 60) (aEnd G (pQ (fun v h1 n1 => v = some (.int (bI true)) ∧ ∃ own1, Fr own own1 h h1 nx n1 (fun i => i = k) ∧ LsAt G own1 h1 k a (xs ++ [x]))) 1 60) 0 0 h nx 0 [(0, .ref (a)), (1, .ref (x))] []
  obtain ⟨y_11, y_1m, y_1e, y_12, y_13, y_14⟩ := hL
  refine aw_aload_n dJx4a65c_add_9ea2d_0 rfl ?_
  refine aw_dup dJx4a65c_add_9ea2d_1 rfl ?_
  refine aw_getM 0 y_12 rfl rfl (by decide) w_721 w_722 rfl dJx4a65c_add_9ea2d_2 ?_
  refine aw_ic dJx4a65c_add_9ea2d_5 ic_1 ?_
  refine aw_iadd dJx4a65c_add_9ea2d_6 ?_
  refine aw_putMV (v := .int ((y_1m) + (nI (1)))) (ty := .int) (fs' := [.int ((y_1m) + (nI (1))), .ref (y_1e), .int (nI (xs.length))]) 0 y_12 rfl rfl (by decide) (by decide +kernel) rfl rfl rfl (Nat.le_of_ble_eq_true rfl) rfl w_721 w_722 dJx4a65c_add_9ea2d_7 (fun h_1 f_1 o_1 => ?_)
  refine aw_aload_n dJx4a65c_add_9ea2d_10 rfl ?_
  refine aw_aload_n dJx4a65c_add_9ea2d_11 rfl ?_
  refine aw_aload_n dJx4a65c_add_9ea2d_12 rfl ?_
  refine aw_get 1 f_1 rfl rfl (by decide) w_715 rfl dJx4a65c_add_9ea2d_13 ?_
  refine aw_aload_n dJx4a65c_add_9ea2d_16 rfl ?_
  refine aw_get 2 f_1 rfl rfl (by decide) w_718 rfl dJx4a65c_add_9ea2d_17 ?_
  have hne : ∀ b, own b ≠ k → b ≠ a := fun b hb z => hb (by rw [z]; exact y_11)
  refine aw_callVQ (As := [.ref (x), .ref (y_1e), .int (nI (xs.length))]) (rest := []) (c_Ladd3 G y_11 f_1 y_13 (y_14.keep (fun _ => ⟨o_1 _ (Ne.symm y_13), rfl⟩)) ho hk (fun i hi => ⟨(hel i hi).1.keep (o_1 _ (hne _ (hel i hi).2.1)), (hel i hi).2⟩) ⟨hx.1.keep (o_1 x (hne x hx.2.1)), hx.2⟩ hlen) kJx4a65c_add_72be8 w_797 f_1 rfl rfl rfl rfl (Nat.le_of_ble_eq_true rfl) dJx4a65c_add_9ea2d_20 ⟨Nat.le_of_ble_eq_true rfl, Nat.le_of_ble_eq_true rfl⟩ ⟨Nat.le_of_ble_eq_true rfl, Nat.le_of_ble_eq_true rfl⟩ (fun v_1 h_2 n_1 q_1 z_1 => ?_)
  obtain ⟨rfl, own1, hF, hL2⟩ := q_1
  refine aw_ic dJx4a65c_add_9ea2d_23 ic_1 ?_
  refine aw_top (show nI 1 = bI true from rfl) ?_
  exact aw_zreturn dJx4a65c_add_9ea2d_24 rfl (bI_nar true) ⟨_, rfl, rfl, own1, (Fr.tr ⟨Nat.le_refl _, fun _ _ => rfl, ho, fun b hb => Or.inl (ho b hb), fun b hb hn => o_1 b (hne b hn)⟩ hF), hL2⟩ (Nat.le_of_ble_eq_true rfl) (Nat.le_of_ble_eq_true rfl)
set_option maxHeartbeats 4000000 in
set_option maxRecDepth 20000 in
/-- fastRemove(es, i) -/
theorem c_Lfast (G : aG) {h : aH} {nx k a e i cap : Nat} {own : Nat → Nat} {xs : List Nat} {md : Int32} {f : Nat → Option Nat} (e1 : own a = k) (e2 : h a = some (.inr (1, [.int md, .ref e, .int (nI xs.length)]))) (e3 : a ≠ e) (e5 : own e = k) (e6 : h e = some (.inl (4, cap, .inr (.inr (.inr (.inr f)))))) (e7 : xs.length ≤ cap) (e8 : 0 < cap) (e9 : cap ≤ 60) (ea : ∀ i, i < xs.length → f i = some (xs.getD i 0)) (hi : i < xs.length) (hel : ∀ i, i < xs.length → aStor h (xs.getD i 0) ∧ own (xs.getD i 0) ≠ k)  : aMet G mJx4a65c_fastRemove_b59b0 1 0 0 [.ref (a), .ref (e), .int (nI (i))] h nx (pQ (fun v h1 n1 => v = none ∧ n1 = nx ∧ LsAt G own h1 k a (xs.eraseIdx i) ∧ ∀ b, own b ≠ k → h1 b = h b)) := by
  refine aMet_ofF (by decide +kernel) (Nat.le_of_ble_eq_true rfl) ?_
  show aw G mJx4a65c_fastRemove_b59b0 [] (aRoom 1 0 0) (aEnd G (pQ (fun v h1 n1 => v = none ∧ n1 = nx ∧ LsAt G own h1 k a (xs.eraseIdx i) ∧ ∀ b, own b ≠ k → h1 b = h b)) 0 0) 0 0 h nx 0 [(0, .ref (a)), (1, .ref (e)), (2, .int (nI (i)))] []
  refine aw_aload_n dJx4a65c_fastRemove_b59b0_0 rfl ?_
  refine aw_dup dJx4a65c_fastRemove_b59b0_1 rfl ?_
  refine aw_getM 0 e2 rfl rfl (by decide) w_721 w_722 rfl dJx4a65c_fastRemove_b59b0_2 ?_
  refine aw_ic dJx4a65c_fastRemove_b59b0_5 ic_1 ?_
  refine aw_iadd dJx4a65c_fastRemove_b59b0_6 ?_
  refine aw_putMV (v := .int ((md) + (nI (1)))) (ty := .int) (fs' := [.int ((md) + (nI (1))), .ref (e), .int (nI (xs.length))]) 0 e2 rfl rfl (by decide) (by decide +kernel) rfl rfl rfl (Nat.le_of_ble_eq_true rfl) rfl w_721 w_722 dJx4a65c_fastRemove_b59b0_7 (fun h_1 f_1 o_1 => ?_)
  have f_2 := (o_1 e (by omega)).trans e6
  refine aw_aload_n dJx4a65c_fastRemove_b59b0_10 rfl ?_
  refine aw_get 2 f_1 rfl rfl (by decide) w_718 rfl dJx4a65c_fastRemove_b59b0_11 ?_
  refine aw_ic dJx4a65c_fastRemove_b59b0_14 ic_1 ?_
  refine aw_isubN (by omega) dJx4a65c_fastRemove_b59b0_15 ?_
  refine aw_dup dJx4a65c_fastRemove_b59b0_16 rfl ?_
  refine aw_istore_n (L' := [(3, .int (nI (xs.length - 1))), (0, .ref (a)), (1, .ref (e)), (2, .int (nI (i)))]) dJx4a65c_fastRemove_b59b0_17 (by decide) rfl ?_
  refine aw_iload_n dJx4a65c_fastRemove_b59b0_18 rfl ?_
  have J : ∀ (g : Nat → Option Nat) (h2 : aH), h2 a = some (.inr (1, [.int (md + nI 1), .ref e, .int (nI xs.length)])) → h2 e = some (.inl (4, cap, .inr (.inr (.inr (.inr g))))) → (∀ j, j < xs.length - 1 → g j = some ((xs.eraseIdx i).getD j 0)) → (∀ b, own b ≠ k → h2 b = h b) → aw G mJx4a65c_fastRemove_b59b0 [] (aRoom 1 0 0) (aEnd G (pQ (fun v h1 n1 => v = none ∧ n1 = nx ∧ LsAt G own h1 k a (xs.eraseIdx i) ∧ ∀ b, own b ≠ k → h1 b = h b)) 0 0) 0 0 h2 nx 34 [(3, .int (nI (xs.length - 1))), (0, .ref a), (1, .ref e), (2, .int (nI i))] [] := by
    intro g h2 q1 q2 q3 q4
    refine aw_aload_n dJx4a65c_fastRemove_b59b0_34 rfl ?_
    refine aw_aload_n dJx4a65c_fastRemove_b59b0_35 rfl ?_
    refine aw_iload_n dJx4a65c_fastRemove_b59b0_36 rfl ?_
    refine aw_dup_x1 dJx4a65c_fastRemove_b59b0_37 rfl rfl ?_
    refine aw_putV (v := .int (nI (xs.length - 1))) (ty := .int) (fs' := [.int (md + nI 1), .ref (e), .int (nI (xs.length - 1))]) 2 q1 rfl rfl (by decide) (by decide +kernel) rfl rfl rfl (Nat.le_of_ble_eq_true rfl) rfl w_718 dJx4a65c_fastRemove_b59b0_38 (fun h_2 f_3 o_2 => ?_)
    have f_4 := (o_2 e (by omega)).trans q2
    refine aw_null dJx4a65c_fastRemove_b59b0_41 ?_
    refine aw_aastN f_4 (by omega) (by omega) dJx4a65c_fastRemove_b59b0_42 (fun h_3 f_5 o_3 => ?_)
    have f_6 := (o_3 a (by omega)).trans f_3
    exact aw_return dJx4a65c_fastRemove_b59b0_43 rfl ⟨_, rfl, rfl, rfl, ⟨e1, _, e, by rw [eIl hi]; exact f_6, e3, Or.inr ⟨e5, cap, _, f_5, by rw [eIl hi]; omega, e8, e9, fun j hj => (by rw [eIl hi] at hj; unfold va_up; rw [if_neg (by omega)]; exact q3 j hj)⟩⟩, fun b hb => (o_3 b (fun z => hb (by rw [z]; exact e5))).trans ((o_2 b (fun z => hb (by rw [z]; exact e1))).trans (q4 b hb))⟩ (Nat.le_of_ble_eq_true rfl) (Nat.le_of_ble_eq_true rfl)
  refine aw_icmp_leN (tgt := 34) (by omega) (by omega) dJx4a65c_fastRemove_b59b0_19 (by decide) (fun c1 => ?_) (fun c1 => ?_)
  · skip
    exact J f h_1 f_1 f_2 (fun j hj => by rw [eIx, if_pos (by omega)]; exact ea j (by omega)) (fun b hb => o_1 b (fun z => hb (by rw [z]; exact e1)))
  · skip
    refine aw_aload_n dJx4a65c_fastRemove_b59b0_22 rfl ?_
    refine aw_iload_n dJx4a65c_fastRemove_b59b0_23 rfl ?_
    refine aw_ic dJx4a65c_fastRemove_b59b0_24 ic_1 ?_
    refine aw_iaddN dJx4a65c_fastRemove_b59b0_25 ?_
    refine aw_aload_n dJx4a65c_fastRemove_b59b0_26 rfl ?_
    refine aw_iload_n dJx4a65c_fastRemove_b59b0_27 rfl ?_
    refine aw_iload_n dJx4a65c_fastRemove_b59b0_28 rfl ?_
    refine aw_iload_n dJx4a65c_fastRemove_b59b0_29 rfl ?_
    refine aw_isubN (by omega) dJx4a65c_fastRemove_b59b0_30 ?_
    refine aw_copyO (sp := i + 1) (dp := i) (n := xs.length - 1 - i) f_2 f_2 (by omega) (by omega) (by omega) (by omega) (fun j hj z hz => by rw [ea _ (by omega)] at hz; cases hz; exact ((hel _ (by omega)).1.keep (o_1 _ (fun w => (hel (i + 1 + j) (by omega)).2 (by rw [w]; exact e1))))) w_921 w_430 w_429 w_18 (Nat.le_of_ble_eq_true rfl) (Nat.le_of_ble_eq_true rfl) dJx4a65c_fastRemove_b59b0_31 (fun h_4 f_7 o_4 => ?_)
    have f_8 := (o_4 a (by omega)).trans f_1
    refine J _ h_4 f_8 f_7 (fun j hj => ?_) (fun b hb => (o_4 b (fun z => hb (by rw [z]; exact e5))).trans (o_1 b (fun z => hb (by rw [z]; exact e1))))
    rw [eIx]
    unfold va_cpy
    by_cases z : j < i
    · rw [if_pos z, if_neg (by omega)]; exact ea j (by omega)
    · rw [if_neg z, if_pos (by omega), ea _ (by omega)]; congr 2; omega
set_option maxHeartbeats 4000000 in
set_option maxRecDepth 20000 in
/-- remove(i) -/
theorem c_Lremove (G : aG) {h : aH} {nx k a : Nat} {own : Nat → Nat} {xs : List Nat} (hL : LsAt G own h k a xs) {i : Nat} (hi : i < xs.length) (hel : ∀ i, i < xs.length → aStor h (xs.getD i 0) ∧ own (xs.getD i 0) ≠ k) (hlen : xs.length ≤ 40) : aMet G mJx4a65c_remove_915e3 2 0 0 [.ref (a), .int (nI (i))] h nx (pQ (fun v h1 n1 => v = some (.ref (xs.getD i 0)) ∧ n1 = nx ∧ LsAt G own h1 k a (xs.eraseIdx i) ∧ ∀ b, own b ≠ k → h1 b = h b)) := by
  refine aMet_ofF (by decide +kernel) (Nat.le_of_ble_eq_true rfl) ?_
  show aw G mJx4a65c_remove_915e3 [] (aRoom 2 0 0) (aEnd G (pQ (fun v h1 n1 => v = some (.ref (xs.getD i 0)) ∧ n1 = nx ∧ LsAt G own h1 k a (xs.eraseIdx i) ∧ ∀ b, own b ≠ k → h1 b = h b)) 0 0) 0 0 h nx 0 [(0, .ref (a)), (1, .int (nI (i)))] []
  obtain ⟨y_11, y_1m, y_1e, y_12, y_13, y_14⟩ := hL
  rcases y_14 with ⟨-, y_1z⟩ | ⟨y_15, y_1c, y_1f, y_16, y_17, y_18, y_19, y_1a⟩
  · rw [y_1z] at hi; exact absurd hi (Nat.not_lt_zero _)
  refine aw_iload_n dJx4a65c_remove_915e3_0 rfl ?_
  refine aw_aload_n dJx4a65c_remove_915e3_1 rfl ?_
  refine aw_get 2 y_12 rfl rfl (by decide) w_718 rfl dJx4a65c_remove_915e3_2 ?_
  refine aw_callSR (As := [.int (nI (i)), .int (nI (xs.length))]) (rest := []) (c_check G hi (by omega)) kJ15_checkIndex_7cf53 w_858 rfl rfl (Nat.le_of_ble_eq_true rfl) dJx4a65c_remove_915e3_5 ⟨Nat.le_of_ble_eq_true rfl, Nat.le_of_ble_eq_true rfl⟩ ⟨Nat.le_of_ble_eq_true rfl, Nat.le_of_ble_eq_true rfl⟩ ?_
  refine aw_pop dJx4a65c_remove_915e3_8 rfl ?_
  refine aw_aload_n dJx4a65c_remove_915e3_9 rfl ?_
  refine aw_get 1 y_12 rfl rfl (by decide) w_715 rfl dJx4a65c_remove_915e3_10 ?_
  refine aw_astore_n (L' := [(2, .ref (y_1e)), (0, .ref (a)), (1, .int (nI (i)))]) dJx4a65c_remove_915e3_13 (by decide) rfl ?_
  refine aw_aload_n dJx4a65c_remove_915e3_14 rfl ?_
  refine aw_iload_n dJx4a65c_remove_915e3_15 rfl ?_
  refine aw_aaloadO y_16 (by omega) (by omega) dJx4a65c_remove_915e3_16 ?_
  refine aw_to ?_ rfl (show ([va_rf (y_1f i)] : List Value) = ([.ref (xs.getD i 0)] : List Value) from by rw [y_1a i hi]; rfl) rfl
  refine aw_astore_n (L' := [(3, .ref (xs.getD i 0)), (2, .ref (y_1e)), (0, .ref (a)), (1, .int (nI (i)))]) dJx4a65c_remove_915e3_17 (by decide) rfl ?_
  refine aw_aload_n dJx4a65c_remove_915e3_18 rfl ?_
  refine aw_aload_n dJx4a65c_remove_915e3_19 rfl ?_
  refine aw_iload_n dJx4a65c_remove_915e3_20 rfl ?_
  refine aw_callVQ (As := [.ref (y_1e), .int (nI (i))]) (rest := []) (c_Lfast G y_11 y_12 y_13 y_15 y_16 y_17 y_18 y_19 y_1a hi hel) kJx4a65c_fastRemove_b59b0 w_917 y_12 rfl rfl rfl rfl (Nat.le_of_ble_eq_true rfl) dJx4a65c_remove_915e3_21 ⟨Nat.le_of_ble_eq_true rfl, Nat.le_of_ble_eq_true rfl⟩ ⟨Nat.le_of_ble_eq_true rfl, Nat.le_of_ble_eq_true rfl⟩ (fun v_1 h_1 n_1 q_1 z_1 => ?_)
  obtain ⟨rfl, rfl, q1, q2⟩ := q_1
  refine aw_aload_n dJx4a65c_remove_915e3_24 rfl ?_
  exact aw_areturn dJx4a65c_remove_915e3_25 rfl (Or.inl ⟨_, rfl⟩) (Or.inr ⟨_, rfl⟩) ⟨_, rfl, rfl, rfl, q1, q2⟩ (Nat.le_of_ble_eq_true rfl) (Nat.le_of_ble_eq_true rfl)
set_option maxHeartbeats 4000000 in
set_option maxRecDepth 20000 in
/-- Itr(list) -/
theorem c_Iinit (G : aG) {h : aH} {nx a t : Nat} {md : Int32} {e : Nat} {n : Int32} (e2 : h a = some (.inr (1, [.int md, .ref e, .int n]))) (f1 : h t = some (.inr (0, [.int (nI 0), .int (nI 0), .int (nI 0), .null]))) (hta : t ≠ a) : aMet G mJx35411_init_45d68 1 0 0 [.ref (t), .ref (a)] h nx (pQ (fun v h1 n1 => v = none ∧ n1 = nx ∧ ItAt h1 t a 0 ∧ ∀ b, b ≠ t → h1 b = h b)) := by
  have hat : a ≠ t := Ne.symm hta
  refine aMet_ofF (by decide +kernel) (Nat.le_of_ble_eq_true rfl) ?_
  show aw G mJx35411_init_45d68 [] (aRoom 1 0 0) (aEnd G (pQ (fun v h1 n1 => v = none ∧ n1 = nx ∧ ItAt h1 t a 0 ∧ ∀ b, b ≠ t → h1 b = h b)) 0 0) 0 0 h nx 0 [(0, .ref (t)), (1, .ref (a))] []
  refine aw_aload_n dJx35411_init_45d68_0 rfl ?_
  refine aw_aload_n dJx35411_init_45d68_1 rfl ?_
  refine aw_putFV (v := .ref (a)) (ty := (.object "java/util/ArrayList")) (fs' := [.int (nI (0)), .int (nI (0)), .int (nI (0)), .ref (a)]) 3 f1 rfl rfl (by decide) (by decide +kernel) rfl rfl rfl (Nat.le_of_ble_eq_true rfl) rfl rfl rfl w_981 dJx35411_init_45d68_2 (fun h_1 f_1 o_1 => ?_)
  have f_2 := (o_1 a (by omega)).trans e2
  refine aw_aload_n dJx35411_init_45d68_5 rfl ?_
  refine aw_objInit w_977 w_34 w_35 (Nat.le_of_ble_eq_true rfl) (Nat.le_of_ble_eq_true rfl) dJx35411_init_45d68_6 ?_
  refine aw_aload_n dJx35411_init_45d68_9 rfl ?_
  refine aw_iconst dJx35411_init_45d68_10 ic_m1 ?_
  refine aw_putV (v := .int (-1)) (ty := .int) (fs' := [.int (nI (0)), .int (-1), .int (nI (0)), .ref (a)]) 1 f_1 rfl rfl (by decide) (by decide +kernel) rfl rfl rfl (Nat.le_of_ble_eq_true rfl) rfl w_979 dJx35411_init_45d68_11 (fun h_2 f_3 o_2 => ?_)
  have f_4 := (o_2 a (by omega)).trans f_2
  refine aw_aload_n dJx35411_init_45d68_14 rfl ?_
  refine aw_aload_n dJx35411_init_45d68_15 rfl ?_
  refine aw_get 3 f_3 rfl rfl (by decide) w_981 rfl dJx35411_init_45d68_16 ?_
  refine aw_getM 0 f_4 rfl rfl (by decide) w_721 w_720 rfl dJx35411_init_45d68_19 ?_
  refine aw_putV (v := .int (md)) (ty := .int) (fs' := [.int (nI (0)), .int (-1), .int (md), .ref (a)]) 2 f_3 rfl rfl (by decide) (by decide +kernel) rfl rfl rfl (Nat.le_of_ble_eq_true rfl) rfl w_980 dJx35411_init_45d68_22 (fun h_3 f_5 o_3 => ?_)
  have f_6 := (o_3 a (by omega)).trans f_4
  exact aw_return dJx35411_init_45d68_25 rfl ⟨_, rfl, rfl, rfl, ⟨_, _, _, _, f_5, f_6⟩, fun b hb => (((o_3 b (by omega)).trans (o_2 b (by omega))).trans (o_1 b (by omega)))⟩ (Nat.le_of_ble_eq_true rfl) (Nat.le_of_ble_eq_true rfl)
set_option maxHeartbeats 4000000 in
set_option maxRecDepth 20000 in
/-- iterator() -/
theorem c_Liter (G : aG) {h : aH} {nx k a : Nat} {own : Nat → Nat} {xs : List Nat} (hL : LsAt G own h k a xs) (han : a < nx) : aMet G mJx4a65c_iterator_32c93 2 1 4 [.ref (a)] h nx (pQ (fun v h1 n1 => v = some (.ref nx) ∧ n1 = nx + 1 ∧ ItAt h1 nx a 0 ∧ ∀ b, b ≠ nx → h1 b = h b)) := by
  refine aMet_ofF (by decide +kernel) (Nat.le_of_ble_eq_true rfl) ?_
  show aw G mJx4a65c_iterator_32c93 [] (aRoom 2 1 4) (aEnd G (pQ (fun v h1 n1 => v = some (.ref nx) ∧ n1 = nx + 1 ∧ ItAt h1 nx a 0 ∧ ∀ b, b ≠ nx → h1 b = h b)) 1 4) 0 0 h nx 0 [(0, .ref (a))] []
  obtain ⟨y_11, y_1m, y_1e, y_12, y_13, y_14⟩ := hL
  refine aw_newV (ci := 0) (fs := [.int (nI (0)), .int (nI (0)), .int (nI (0)), .null]) rfl w_972 w_973 w_25 (by decide +kernel) (Nat.le_of_ble_eq_true rfl) (Nat.le_of_ble_eq_true rfl) dJx4a65c_iterator_32c93_0 (fun h_1 f_1 o_1 => ?_)
  have f_2 := (o_1 a (by omega)).trans y_12
  refine aw_dup dJx4a65c_iterator_32c93_3 rfl ?_
  refine aw_aload_n dJx4a65c_iterator_32c93_4 rfl ?_
  refine aw_callIQ (As := [.ref (a)]) (rest := [.ref (nx)]) (c_Iinit G f_2 f_1 (by omega)) kJx35411_init_45d68 w_974 rfl rfl (Nat.le_of_ble_eq_true rfl) dJx4a65c_iterator_32c93_5 ⟨Nat.le_of_ble_eq_true rfl, Nat.le_of_ble_eq_true rfl⟩ ⟨Nat.le_of_ble_eq_true rfl, Nat.le_of_ble_eq_true rfl⟩ (fun v_1 h_2 n_1 q_1 z_1 => ?_)
  obtain ⟨rfl, rfl, q1, q2⟩ := q_1
  exact aw_areturn dJx4a65c_iterator_32c93_8 rfl (Or.inl ⟨_, rfl⟩) (Or.inr ⟨_, rfl⟩) ⟨_, rfl, rfl, rfl, q1, fun b hb => (q2 b hb).trans (o_1 b hb)⟩ (Nat.le_of_ble_eq_true rfl) (Nat.le_of_ble_eq_true rfl)
set_option maxHeartbeats 4000000 in
set_option maxRecDepth 20000 in
/-- hasNext() -/
theorem c_hasNext (G : aG) {h : aH} {nx k a : Nat} {own : Nat → Nat} {xs : List Nat} (hL : LsAt G own h k a xs) {t j : Nat} (hI : ItAt h t a j) (hj : j ≤ xs.length) (hn : xs.length < 2 ^ 31) : aMet G mJx35411_hasNext_aae02 0 0 0 [.ref (t)] h nx (pI (bI (decide (j < xs.length))) h nx) := by
  refine aMet_ofF (by decide +kernel) (Nat.le_of_ble_eq_true rfl) ?_
  show aw G mJx35411_hasNext_aae02 [] (aRoom 0 0 0) (aEnd G (pI (bI (decide (j < xs.length))) h nx) 0 0) 0 0 h nx 0 [(0, .ref (t))] []
  obtain ⟨y_11, y_1m, y_1e, y_12, y_13, y_14⟩ := hL
  obtain ⟨im, il, iv, ig, i1, i2⟩ := hI
  refine aw_aload_n dJx35411_hasNext_aae02_0 rfl ?_
  refine aw_get 0 i1 rfl rfl (by decide) w_978 rfl dJx35411_hasNext_aae02_1 ?_
  refine aw_aload_n dJx35411_hasNext_aae02_4 rfl ?_
  refine aw_get 3 i1 rfl rfl (by decide) w_981 rfl dJx35411_hasNext_aae02_5 ?_
  refine aw_getN 2 y_12 rfl rfl (by decide) w_717 rfl dJx35411_hasNext_aae02_8 ?_
  refine aw_icmp_eqN (tgt := 18) (by omega) (by omega) dJx35411_hasNext_aae02_11 (by decide) (fun c1 => ?_) (fun c1 => ?_)
  · skip
    refine aw_ic dJx35411_hasNext_aae02_18 ic_0 ?_
    exact aw_zreturn dJx35411_hasNext_aae02_19 rfl (bI_nar false) ⟨r_f (decide_eq_false (by omega)), rfl, rfl⟩ (Nat.le_of_ble_eq_true rfl) (Nat.le_of_ble_eq_true rfl)
  · skip
    refine aw_ic dJx35411_hasNext_aae02_14 ic_1 ?_
    refine aw_goto (tgt := 19) dJx35411_hasNext_aae02_15 (by decide) ?_
    exact aw_zreturn dJx35411_hasNext_aae02_19 rfl (bI_nar true) ⟨r_t (decide_eq_true (by omega)), rfl, rfl⟩ (Nat.le_of_ble_eq_true rfl) (Nat.le_of_ble_eq_true rfl)
set_option maxHeartbeats 4000000 in
set_option maxRecDepth 20000 in
/-- checkForComodification() -/
theorem c_comod (G : aG) {h : aH} {nx t a j : Nat} (hI : ItAt h t a j)  : aMet G mJx35411_checkForComodification_da8c8 0 0 0 [.ref (t)] h nx (pR none h nx) := by
  refine aMet_ofF (by decide +kernel) (Nat.le_of_ble_eq_true rfl) ?_
  show aw G mJx35411_checkForComodification_da8c8 [] (aRoom 0 0 0) (aEnd G (pR none h nx) 0 0) 0 0 h nx 0 [(0, .ref (t))] []
  obtain ⟨im, il, iv, ig, i1, i2⟩ := hI
  refine aw_aload_n dJx35411_checkForComodification_da8c8_0 rfl ?_
  refine aw_get 3 i1 rfl rfl (by decide) w_981 rfl dJx35411_checkForComodification_da8c8_1 ?_
  refine aw_getM 0 i2 rfl rfl (by decide) w_721 w_720 rfl dJx35411_checkForComodification_da8c8_4 ?_
  refine aw_aload_n dJx35411_checkForComodification_da8c8_7 rfl ?_
  refine aw_get 2 i1 rfl rfl (by decide) w_980 rfl dJx35411_checkForComodification_da8c8_8 ?_
  refine aw_icmp_eq (tgt := 22) dJx35411_checkForComodification_da8c8_11 (by decide) (fun c1 => ?_) (fun c1 => absurd c1 (fun q => q rfl))
  exact aw_return dJx35411_checkForComodification_da8c8_22 rfl ⟨rfl, rfl, rfl⟩ (Nat.le_of_ble_eq_true rfl) (Nat.le_of_ble_eq_true rfl)
set_option maxHeartbeats 4000000 in
set_option maxRecDepth 20000 in
/-- next() -/
theorem c_next (G : aG) {h : aH} {nx k a : Nat} {own : Nat → Nat} {xs : List Nat} (hL : LsAt G own h k a xs) {t j : Nat} (hI : ItAt h t a j) (hi : j < xs.length) (hta : t ≠ a) (hto : own t ≠ k) (hn : xs.length < 2 ^ 31) : aMet G mJx35411_next_0502b 1 0 0 [.ref (t)] h nx (pQ (fun v h1 n1 => v = some (.ref (xs.getD j 0)) ∧ n1 = nx ∧ ItAt h1 t a (j + 1) ∧ ∀ b, b ≠ t → h1 b = h b)) := by
  have hI0 := hI
  have hat : a ≠ t := Ne.symm hta
  refine aMet_ofF (by decide +kernel) (Nat.le_of_ble_eq_true rfl) ?_
  show aw G mJx35411_next_0502b [] (aRoom 1 0 0) (aEnd G (pQ (fun v h1 n1 => v = some (.ref (xs.getD j 0)) ∧ n1 = nx ∧ ItAt h1 t a (j + 1) ∧ ∀ b, b ≠ t → h1 b = h b)) 0 0) 0 0 h nx 0 [(0, .ref (t))] []
  obtain ⟨y_11, y_1m, y_1e, y_12, y_13, y_14⟩ := hL
  rcases y_14 with ⟨-, y_1z⟩ | ⟨y_15, y_1c, y_1f, y_16, y_17, y_18, y_19, y_1a⟩
  · rw [y_1z] at hi; exact absurd hi (Nat.not_lt_zero _)
  obtain ⟨im, il, iv, ig, i1, i2⟩ := hI
  have i3 := i2.symm.trans y_12
  obtain ⟨rfl, rfl, rfl⟩ : im = y_1m ∧ iv = .ref y_1e ∧ ig = nI xs.length := by injection i3 with i3; injection i3 with i3; injection i3 with _ i3; injection i3 with i4 i5; injection i5 with i6 i7; injection i7 with i8 _; injection i4 with i4; injection i8 with i8; exact ⟨i4, i6, i8⟩
  have hte : t ≠ y_1e := fun z => hto (by rw [z]; exact y_15)
  have het : y_1e ≠ t := Ne.symm hte
  refine aw_aload_n dJx35411_next_0502b_0 rfl ?_
  refine aw_callVR (As := []) (rest := []) (c_comod G hI0) kJx35411_checkForComodification_da8c8 w_1010 i1 rfl rfl rfl rfl (Nat.le_of_ble_eq_true rfl) dJx35411_next_0502b_1 ⟨Nat.le_of_ble_eq_true rfl, Nat.le_of_ble_eq_true rfl⟩ ⟨Nat.le_of_ble_eq_true rfl, Nat.le_of_ble_eq_true rfl⟩ ?_
  refine aw_aload_n dJx35411_next_0502b_4 rfl ?_
  refine aw_get 0 i1 rfl rfl (by decide) w_978 rfl dJx35411_next_0502b_5 ?_
  refine aw_istore_n (L' := [(1, .int (nI (j))), (0, .ref (t))]) dJx35411_next_0502b_8 (by decide) rfl ?_
  refine aw_iload_n dJx35411_next_0502b_9 rfl ?_
  refine aw_aload_n dJx35411_next_0502b_10 rfl ?_
  refine aw_get 3 i1 rfl rfl (by decide) w_981 rfl dJx35411_next_0502b_11 ?_
  refine aw_getN 2 y_12 rfl rfl (by decide) w_717 rfl dJx35411_next_0502b_14 ?_
  refine aw_icmp_ltN (tgt := 28) (by omega) (by omega) dJx35411_next_0502b_17 (by decide) (fun c1 => ?_) (fun c1 => absurd c1 (by omega))
  refine aw_aload_n dJx35411_next_0502b_28 rfl ?_
  refine aw_get 3 i1 rfl rfl (by decide) w_981 rfl dJx35411_next_0502b_29 ?_
  refine aw_get 1 y_12 rfl rfl (by decide) w_716 rfl dJx35411_next_0502b_32 ?_
  refine aw_astore_n (L' := [(2, .ref (y_1e)), (1, .int (nI (j))), (0, .ref (t))]) dJx35411_next_0502b_35 (by decide) rfl ?_
  refine aw_iload_n dJx35411_next_0502b_36 rfl ?_
  refine aw_aload_n dJx35411_next_0502b_37 rfl ?_
  refine aw_lenO y_16 dJx35411_next_0502b_38 ?_
  refine aw_icmp_ltN (tgt := 50) (by omega) (by omega) dJx35411_next_0502b_39 (by decide) (fun c2 => ?_) (fun c2 => absurd c2 (by omega))
  refine aw_aload_n dJx35411_next_0502b_50 rfl ?_
  refine aw_iload_n dJx35411_next_0502b_51 rfl ?_
  refine aw_ic dJx35411_next_0502b_52 ic_1 ?_
  refine aw_iaddN dJx35411_next_0502b_53 ?_
  refine aw_putV (v := .int (nI (j + 1))) (ty := .int) (fs' := [.int (nI (j + 1)), .int (il), .int (im), .ref (a)]) 0 i1 rfl rfl (by decide) (by decide +kernel) rfl rfl rfl (Nat.le_of_ble_eq_true rfl) rfl w_978 dJx35411_next_0502b_54 (fun h_1 f_1 o_1 => ?_)
  have f_2 := (o_1 a (by omega)).trans y_12
  have f_3 := (o_1 y_1e (by omega)).trans y_16
  refine aw_aload_n dJx35411_next_0502b_57 rfl ?_
  refine aw_aload_n dJx35411_next_0502b_58 rfl ?_
  refine aw_iload_n dJx35411_next_0502b_59 rfl ?_
  refine aw_dup_x1 dJx35411_next_0502b_60 rfl rfl ?_
  refine aw_putV (v := .int (nI (j))) (ty := .int) (fs' := [.int (nI (j + 1)), .int (nI (j)), .int (im), .ref (a)]) 1 f_1 rfl rfl (by decide) (by decide +kernel) rfl rfl rfl (Nat.le_of_ble_eq_true rfl) rfl w_979 dJx35411_next_0502b_61 (fun h_2 f_4 o_2 => ?_)
  have f_5 := (o_2 a (by omega)).trans f_2
  have f_6 := (o_2 y_1e (by omega)).trans f_3
  refine aw_aaloadO f_6 (by omega) (by omega) dJx35411_next_0502b_64 ?_
  refine aw_to ?_ rfl (show ([va_rf (y_1f j)] : List Value) = ([.ref (xs.getD j 0)] : List Value) from by rw [y_1a j hi]; rfl) rfl
  exact aw_areturn dJx35411_next_0502b_65 rfl (Or.inl ⟨_, rfl⟩) (Or.inr ⟨_, rfl⟩) ⟨_, rfl, rfl, rfl, ⟨_, _, _, _, f_4, f_5⟩, fun b hb => ((o_2 b (by omega)).trans (o_1 b (by omega)))⟩ (Nat.le_of_ble_eq_true rfl) (Nat.le_of_ble_eq_true rfl)
