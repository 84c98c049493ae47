set_option maxHeartbeats 4000000 in
set_option maxRecDepth 20000 in
/-- Math.floorMod(a, b) of small numbers -/
theorem c_floorMod (G : aG) {h : aH} {nx a b : Nat} (ha : a < 2 ^ 31) (h0 : 0 < b) (hb : b < 2 ^ 31) : aMet G mJ9_floorMod_7cf53 0 0 0 [.int (nI (a)), .int (nI (b))] h nx (pI (nI (a % b)) h nx) := by
  refine aMet_ofF (by decide +kernel) (Nat.le_of_ble_eq_true rfl) ?_
  show aw G mJ9_floorMod_7cf53 [] (aRoom 0 0 0) (aEnd G (pI (nI (a % b)) h nx) 0 0) 0 0 h nx 0 [(0, .int (nI (a))), (1, .int (nI (b)))] []
  refine aw_iload_n dJ9_floorMod_7cf53_0 rfl ?_
  refine aw_iload_n dJ9_floorMod_7cf53_1 rfl ?_
  refine aw_iremN (by omega) (by omega) (by omega) dJ9_floorMod_7cf53_2 ?_
  refine aw_istore_n (L' := [(2, .int (nI (a % b))), (0, .int (nI (a))), (1, .int (nI (b)))]) dJ9_floorMod_7cf53_3 (by decide) rfl ?_
  refine aw_iload_n dJ9_floorMod_7cf53_4 rfl ?_
  refine aw_iload_n dJ9_floorMod_7cf53_5 rfl ?_
  refine aw_ixor dJ9_floorMod_7cf53_6 ?_
  have hx : a ^^^ b < 2 ^ 31 := Nat.xor_lt_two_pow ha hb
  refine aw_top (show ((nI (a)) ^^^ (nI (b))) = (nI (a ^^^ b)) from nI_xor _ _) ?_
  refine aw_if_geN (tgt := 18) (by omega) dJ9_floorMod_7cf53_7 (by decide) ?_
  refine aw_iload_n dJ9_floorMod_7cf53_18 rfl ?_
  exact aw_ireturn dJ9_floorMod_7cf53_19 rfl ⟨rfl, rfl, rfl⟩ (Nat.le_of_ble_eq_true rfl) (Nat.le_of_ble_eq_true rfl)
set_option maxHeartbeats 4000000 in
set_option maxRecDepth 20000 in
/-- Row() -/
theorem c_X3_init (G : aG) {h : aH} {r : Nat} (f1 : h r = some (.inr (3, [.null, .null, .int (nI 0)]))) : aMet G mX3_init 1 2 32 [.ref (r)] h (r + 1) (pQ (fun v h1 n1 => v = none ∧ n1 = r + 3 ∧ RowAt h1 r [] ∧ aOff h h1 r 3)) := by
  refine aMet_of rfl (Nat.le_of_ble_eq_true rfl) ?_
  show aw G mX3_init [] (aRoom 1 2 32) (aEnd G (pQ (fun v h1 n1 => v = none ∧ n1 = r + 3 ∧ RowAt h1 r [] ∧ aOff h h1 r 3)) 2 32) 0 0 h (r + 1) 0 [(0, .ref (r))] []
  refine aw_aload_n dX3_init_0 rfl ?_
  refine aw_objInit w_45 w_34 w_35 (Nat.le_of_ble_eq_true rfl) (Nat.le_of_ble_eq_true rfl) dX3_init_1 ?_
  refine aw_aload_n dX3_init_4 rfl ?_
  refine aw_bp (v := 16) dX3_init_5 (by decide) ?_
  refine aw_newarrIV (by decide) w_56 (Nat.le_of_ble_eq_true rfl) (Nat.le_of_ble_eq_true rfl) dX3_init_7 (fun h_1 f_1 o_1 => ?_)
  have f_2 := (o_1 r (by omega)).trans f1
  refine aw_nx (show r + 1 + 1 = r + 2 from rfl) ?_
  refine aw_putFV (v := .ref (r + 1)) (ty := (.array .int)) (fs' := [.ref (r + 1), .null, .int (nI (0))]) 0 f_2 rfl rfl (by decide) (by decide +kernel) rfl rfl rfl (Nat.le_of_ble_eq_true rfl) rfl rfl rfl w_46 dX3_init_9 (fun h_2 f_3 o_2 => ?_)
  have f_4 := (o_2 (r + 1) (by omega)).trans f_1
  refine aw_aload_n dX3_init_12 rfl ?_
  refine aw_bp (v := 16) dX3_init_13 (by decide) ?_
  refine aw_newarrIV (by decide) w_56 (Nat.le_of_ble_eq_true rfl) (Nat.le_of_ble_eq_true rfl) dX3_init_15 (fun h_3 f_5 o_3 => ?_)
  have f_6 := (o_3 r (by omega)).trans f_3
  have f_7 := (o_3 (r + 1) (by omega)).trans f_4
  refine aw_nx (show r + 2 + 1 = r + 3 from rfl) ?_
  refine aw_putFV (v := .ref (r + 2)) (ty := (.array .int)) (fs' := [.ref (r + 1), .ref (r + 2), .int (nI (0))]) 1 f_6 rfl rfl (by decide) (by decide +kernel) rfl rfl rfl (Nat.le_of_ble_eq_true rfl) rfl rfl rfl w_47 dX3_init_17 (fun h_4 f_8 o_4 => ?_)
  have f_9 := (o_4 (r + 2) (by omega)).trans f_5
  have f_10 := (o_4 (r + 1) (by omega)).trans f_7
  exact aw_return dX3_init_20 rfl ⟨_, rfl, rfl, rfl, ⟨_, _, f_8, f_10, f_9, Nat.zero_le _, fun i hi => absurd hi (Nat.not_lt_zero _)⟩, fun a ha => ((((o_4 a (by omega)).trans (o_3 a (by omega))).trans (o_2 a (by omega))).trans (o_1 a (by omega)))⟩ (Nat.le_of_ble_eq_true rfl) (Nat.le_of_ble_eq_true rfl)
set_option maxHeartbeats 4000000 in
set_option maxRecDepth 20000 in
/-- row() -/
theorem c_X1_row (G : aG) {h : aH} {nx d sc : Nat} {l : List Nat} {ps : List (List Nat)} (hD : DeckAt h d l ps sc) : aMet G mX1_row 0 0 0 [.ref (d)] h nx (pR (some (.ref (d + 1))) h nx) := by
  have hD0 := hD
  obtain ⟨e1, e2, e3, e4, e5, e6, e7⟩ := hD
  refine aMet_of rfl (Nat.le_of_ble_eq_true rfl) ?_
  show aw G mX1_row [] (aRoom 0 0 0) (aEnd G (pR (some (.ref (d + 1))) h nx) 0 0) 0 0 h nx 0 [(0, .ref (d))] []
  refine aw_aload_n dX1_row_0 rfl ?_
  refine aw_get 0 e1 rfl rfl (by decide) w_66 rfl dX1_row_1 ?_
  exact aw_areturn dX1_row_4 rfl (Or.inl ⟨_, rfl⟩) (Or.inr ⟨_, rfl⟩) ⟨rfl, rfl, rfl⟩ (Nat.le_of_ble_eq_true rfl) (Nat.le_of_ble_eq_true rfl)
set_option maxHeartbeats 4000000 in
set_option maxRecDepth 20000 in
/-- shuffleCount() -/
theorem c_X1_shuffleCount (G : aG) {h : aH} {nx d sc : Nat} {l : List Nat} {ps : List (List Nat)} (hD : DeckAt h d l ps sc) : aMet G mX1_shuffleCount 0 0 0 [.ref (d)] h nx (pI (nI sc) h nx) := by
  have hD0 := hD
  obtain ⟨e1, e2, e3, e4, e5, e6, e7⟩ := hD
  refine aMet_of rfl (Nat.le_of_ble_eq_true rfl) ?_
  show aw G mX1_shuffleCount [] (aRoom 0 0 0) (aEnd G (pI (nI sc) h nx) 0 0) 0 0 h nx 0 [(0, .ref (d))] []
  refine aw_aload_n dX1_shuffleCount_0 rfl ?_
  refine aw_get 3 e1 rfl rfl (by decide) w_69 rfl dX1_shuffleCount_1 ?_
  exact aw_ireturn dX1_shuffleCount_4 rfl ⟨rfl, rfl, rfl⟩ (Nat.le_of_ble_eq_true rfl) (Nat.le_of_ble_eq_true rfl)
set_option maxHeartbeats 4000000 in
set_option maxRecDepth 20000 in
/-- keptPlace() -/
theorem c_X1_keptPlace (G : aG) {h : aH} {nx d sc : Nat} {x y z : Value} (e1 : h d = some (.inr (2, [x, y, z, .int (nI sc)]))) (hs : sc < 2 ^ 31) : aMet G mX1_keptPlace 1 0 0 [.ref (d)] h nx (pI (nI (sc % 40)) h nx) := by
  refine aMet_of rfl (Nat.le_of_ble_eq_true rfl) ?_
  show aw G mX1_keptPlace [] (aRoom 1 0 0) (aEnd G (pI (nI (sc % 40)) h nx) 0 0) 0 0 h nx 0 [(0, .ref (d))] []
  refine aw_aload_n dX1_keptPlace_0 rfl ?_
  refine aw_get 3 e1 rfl rfl (by decide) w_69 rfl dX1_keptPlace_1 ?_
  refine aw_bp (v := 40) dX1_keptPlace_4 (by decide) ?_
  refine aw_callSR (As := [.int (nI (sc)), .int (nI (40))]) (rest := []) (c_floorMod G hs (by decide) (by decide)) kJ9_floorMod_7cf53 w_557 rfl rfl (Nat.le_of_ble_eq_true rfl) dX1_keptPlace_6 ⟨Nat.le_of_ble_eq_true rfl, Nat.le_of_ble_eq_true rfl⟩ ⟨Nat.le_of_ble_eq_true rfl, Nat.le_of_ble_eq_true rfl⟩ ?_
  exact aw_ireturn dX1_keptPlace_9 rfl ⟨rfl, rfl, rfl⟩ (Nat.le_of_ble_eq_true rfl) (Nat.le_of_ble_eq_true rfl)
set_option maxHeartbeats 4000000 in
set_option maxRecDepth 20000 in
/-- begin(n) -/
theorem c_X1_begin (G : aG) {h : aH} {nx d n : Nat} {l : List Nat} (hD : DeckAt h d l [] 0) (hn : n ≤ 16) : aMet G mX1_begin 4 0 0 [.ref (d), .int (nI (n))] h nx (pQ (fun v h1 n1 => v = none ∧ n1 = nx ∧ DeckAt h1 d ((List.range n).map (fun i => 2 * i)) [] 0 ∧ aOff h h1 d 45)) := by
  have hD0 := hD
  obtain ⟨e1, e2, e3, e4, e5, e6, e7⟩ := hD
  refine aMet_of rfl (Nat.le_of_ble_eq_true rfl) ?_
  show aw G mX1_begin [] (aRoom 4 0 0) (aEnd G (pQ (fun v h1 n1 => v = none ∧ n1 = nx ∧ DeckAt h1 d ((List.range n).map (fun i => 2 * i)) [] 0 ∧ aOff h h1 d 45)) 0 0) 0 0 h nx 0 [(0, .ref (d)), (1, .int (nI (n)))] []
  have e2b := e2
  obtain ⟨u_1f, u_1g, u_11, u_12, u_13, u_1l, u_1v⟩ := e2b
  refine aw_aload_n dX1_begin_0 rfl ?_
  refine aw_get 0 e1 rfl rfl (by decide) w_66 rfl dX1_begin_1 ?_
  refine aw_iload_n dX1_begin_4 rfl ?_
  refine aw_callVQ (As := [.int (nI (n))]) (rest := []) (c_X3_begin G e2 hn) kX3_begin w_534 u_11 rfl rfl rfl rfl (Nat.le_of_ble_eq_true rfl) dX1_begin_5 ⟨Nat.le_of_ble_eq_true rfl, Nat.le_of_ble_eq_true rfl⟩ ⟨Nat.le_of_ble_eq_true rfl, Nat.le_of_ble_eq_true rfl⟩ (fun v_1 h_1 n_1 q_1 z_1 => ?_)
  obtain ⟨rfl, rfl, R_1, o_1⟩ := q_1
  exact aw_return dX1_begin_8 rfl ⟨_, rfl, rfl, rfl, ⟨(o_1 _ (by omega)).trans e1, R_1, (o_1 _ (by omega)).trans e3, e4, e5, fun i hi => (by obtain ⟨m, hm⟩ := e6 i hi; exact ⟨m, hm.keep (o_1 _ (by omega))⟩), fun j hj => absurd hj (Nat.not_lt_zero _)⟩, o_1.mono (by omega) (by omega)⟩ (Nat.le_of_ble_eq_true rfl) (Nat.le_of_ble_eq_true rfl)
set_option maxHeartbeats 4000000 in
set_option maxRecDepth 20000 in
/-- put(shuffle, often) -/
theorem c_X1_put (G : aG) {h : aH} {nx d sc : Nat} {l : List Nat} {ps : List (List Nat)} (hD : DeckAt h d l ps sc) {r2 n t : Nat} {s : List Nat} (hR2 : RowAt h r2 s) (hc : cOk n l) (hs : cOk n s) (hn : n ≤ 16) (hdis : d + 45 ≤ r2 ∨ r2 + 3 ≤ d) (ht : t < 2 ^ 20) (hsc : sc < 100000) : aMet G mX1_put 8 0 0 [.ref (d), .ref (r2), .int (nI (t))] h nx (pQ (fun v h1 n1 => v = none ∧ n1 = nx ∧ DeckAt h1 d (oft 20 l s t) ((l :: ps).take 40) (sc + 1) ∧ (∃ s2, RowAt h1 r2 s2) ∧ ∀ a, (a < d ∨ d + 45 ≤ a) → (a < r2 ∨ r2 + 3 ≤ a) → h1 a = h a)) := by
  have hD0 := hD
  obtain ⟨e1, e2, e3, e4, e5, e6, e7⟩ := hD
  obtain ⟨km, hkm⟩ := e6 (sc % 40) (Nat.mod_lt _ (by decide))
  refine aMet_of rfl (Nat.le_of_ble_eq_true rfl) ?_
  show aw G mX1_put [] (aRoom 8 0 0) (aEnd G (pQ (fun v h1 n1 => v = none ∧ n1 = nx ∧ DeckAt h1 d (oft 20 l s t) ((l :: ps).take 40) (sc + 1) ∧ (∃ s2, RowAt h1 r2 s2) ∧ ∀ a, (a < d ∨ d + 45 ≤ a) → (a < r2 ∨ r2 + 3 ≤ a) → h1 a = h a)) 0 0) 0 0 h nx 0 [(0, .ref (d)), (1, .ref (r2)), (2, .int (nI (t)))] []
  refine aw_aload_n dX1_put_0 rfl ?_
  refine aw_get 0 e1 rfl rfl (by decide) w_66 rfl dX1_put_1 ?_
  refine aw_aload_n dX1_put_4 rfl ?_
  refine aw_get 1 e1 rfl rfl (by decide) w_67 rfl dX1_put_5 ?_
  refine aw_aload_n dX1_put_8 rfl ?_
  refine aw_callVR (As := []) (rest := [.ref (d + 4), .ref (d + 1)]) (c_X1_keptPlace G e1 (by omega)) kX1_keptPlace w_553 e1 rfl rfl rfl rfl (Nat.le_of_ble_eq_true rfl) dX1_put_9 ⟨Nat.le_of_ble_eq_true rfl, Nat.le_of_ble_eq_true rfl⟩ ⟨Nat.le_of_ble_eq_true rfl, Nat.le_of_ble_eq_true rfl⟩ ?_
  have hmod : sc % 40 < 40 := Nat.mod_lt _ (by decide)
  refine aw_aaloadI e3 (by omega) (by omega) dX1_put_12 ?_
  refine aw_to ?_ rfl (show ([va_rf ((f40 d) (sc % 40)), .ref (d + 1)] : List Value) = ([.ref (d + 5 + sc % 40), .ref (d + 1)] : List Value) from by rw [f40_at (by omega)]) rfl
  have e2b := e2
  obtain ⟨u_1f, u_1g, u_11, u_12, u_13, u_1l, u_1v⟩ := e2b
  refine aw_callVQ (As := [.ref (d + 5 + sc % 40)]) (rest := []) (c_X3_save G e2 hkm (by omega)) kX3_save w_560 u_11 rfl rfl rfl rfl (Nat.le_of_ble_eq_true rfl) dX1_put_13 ⟨Nat.le_of_ble_eq_true rfl, Nat.le_of_ble_eq_true rfl⟩ ⟨Nat.le_of_ble_eq_true rfl, Nat.le_of_ble_eq_true rfl⟩ (fun v_1 h_1 n_1 q_1 z_1 => ?_)
  obtain ⟨rfl, rfl, hK1, oS⟩ := q_1
  have e1s := (oS d (by omega)).trans e1
  refine aw_aload_n dX1_put_16 rfl ?_
  refine aw_aload_n dX1_put_17 rfl ?_
  refine aw_get 2 e1s rfl rfl (by decide) w_68 rfl dX1_put_18 ?_
  refine aw_ic dX1_put_21 ic_1 ?_
  refine aw_iaddN dX1_put_22 ?_
  refine aw_bp (v := 40) dX1_put_23 (by decide) ?_
  refine aw_min w_565 w_282 w_16 w_283 (Nat.le_of_ble_eq_true rfl) (Nat.le_of_ble_eq_true rfl) (Nat.le_of_ble_eq_true rfl) (Nat.le_of_ble_eq_true rfl) dX1_put_25 ?_
  refine aw_top (show (if (nI (40)) < (nI (ps.length + 1)) then (nI (40)) else (nI (ps.length + 1))) = (nI (min (ps.length + 1) 40)) from n_min _ _ (by omega) (by omega)) ?_
  refine aw_putV (v := .int (nI (min (ps.length + 1) 40))) (ty := .int) (fs' := [.ref (d + 1), .ref (d + 4), .int (nI (min (ps.length + 1) 40)), .int (nI (sc))]) 2 e1s rfl rfl (by decide) (by decide +kernel) rfl rfl rfl (Nat.le_of_ble_eq_true rfl) rfl w_68 dX1_put_28 (fun h_2 f_1 o_1 => ?_)
  refine aw_aload_n dX1_put_31 rfl ?_
  refine aw_dup dX1_put_32 rfl ?_
  refine aw_get 3 f_1 rfl rfl (by decide) w_69 rfl dX1_put_33 ?_
  refine aw_ic dX1_put_36 ic_1 ?_
  refine aw_iaddN dX1_put_37 ?_
  refine aw_putV (v := .int (nI (sc + 1))) (ty := .int) (fs' := [.ref (d + 1), .ref (d + 4), .int (nI (min (ps.length + 1) 40)), .int (nI (sc + 1))]) 3 f_1 rfl rfl (by decide) (by decide +kernel) rfl rfl rfl (Nat.le_of_ble_eq_true rfl) rfl w_69 dX1_put_38 (fun h_3 f_2 o_2 => ?_)
  refine aw_aload_n dX1_put_41 rfl ?_
  refine aw_get 0 f_2 rfl rfl (by decide) w_66 rfl dX1_put_42 ?_
  refine aw_aload_n dX1_put_45 rfl ?_
  refine aw_iload_n dX1_put_46 rfl ?_
  have hR2b := ((hR2.off oS (by omega)).keep (fun a h1 h2 => o_1 a (by omega))).keep (fun a h1 h2 => o_2 a (by omega))
  have e2s := ((e2.off oS (by omega)).keep (fun a h1 h2 => o_1 a (by omega))).keep (fun a h1 h2 => o_2 a (by omega))
  have hK2 := (hK1.keep (o_1 _ (by omega))).keep (o_2 _ (by omega))
  have e2c := e2s
  obtain ⟨u_2f, u_2g, u_21, u_22, u_23, u_2l, u_2v⟩ := e2c
  refine aw_callVQ (As := [.ref (r2), .int (nI (t))]) (rest := []) (c_X3_followOften G (d0 := 20) e2s hR2b hc hs hn (by omega) ht (by omega)) kX3_followOften w_566 u_21 rfl rfl rfl rfl (Nat.le_of_ble_eq_true rfl) dX1_put_47 ⟨Nat.le_of_ble_eq_true rfl, Nat.le_of_ble_eq_true rfl⟩ ⟨Nat.le_of_ble_eq_true rfl, Nat.le_of_ble_eq_true rfl⟩ (fun v_2 h_4 n_2 q_2 z_2 => ?_)
  obtain ⟨rfl, rfl, hRa, hRb, oF⟩ := q_2
  have oT : ∀ a, a ≠ d → a ≠ d + 5 + sc % 40 → (a < d + 1 ∨ d + 1 + 3 ≤ a) → (a < r2 ∨ r2 + 3 ≤ a) → h_4 a = h a := fun a g1 g2 g3 g4 => (oF a (by omega) g4).trans ((o_2 a g1).trans ((o_1 a g1).trans (oS a (by omega))))
  have hlen : ((l :: ps).take 40).length = min (ps.length + 1) 40 := by simp; omega
  refine aw_return dX1_put_50 rfl ⟨_, rfl, rfl, rfl, ⟨by rw [hlen]; exact (oF d (by omega) (by omega)).trans f_2, hRa, (oT _ (by omega) (by omega) (by omega) (by omega)).trans e3, by rw [hlen]; omega, by rw [hlen]; omega, fun i hi => ?_, fun j hj => ?_⟩, hRb, fun a g1 g2 => oT a (by omega) (by omega) (by omega) g2⟩ (Nat.le_of_ble_eq_true rfl) (Nat.le_of_ble_eq_true rfl)
  · by_cases qi : i = sc % 40
    · rw [qi]; exact ⟨l, hK2.keep (oF _ (by omega) (by omega))⟩
    · obtain ⟨m, hm⟩ := e6 i hi; exact ⟨m, hm.keep (oT _ (by omega) (by omega) (by omega) (by omega))⟩
  · rw [hlen] at hj
    cases j with
    | zero => rw [show (sc + 1 - 1 - 0) % 40 = sc % 40 by congr 1]; simp; exact hK2.keep (oF _ (by omega) (by omega))
    | succ j =>
      rw [show sc + 1 - 1 - (j + 1) = sc - 1 - j by omega]
      have e9 : ((l :: ps).take 40).getD (j + 1) [] = ps.getD j [] := by simp [List.getD, List.getElem?_take, show j < 39 by omega]
      rw [e9]
      exact (e7 j (by omega)).keep (oT _ (by omega) (by omega) (by omega) (by omega))
set_option maxHeartbeats 4000000 in
set_option maxRecDepth 20000 in
/-- takeBack() -/
theorem c_X1_takeBack (G : aG) {h : aH} {nx d sc : Nat} {l : List Nat} {ps : List (List Nat)} (hD : DeckAt h d l ps sc) (hl : ∀ m ∈ ps, m.length = l.length) (hsc : sc < 100000) : aMet G mX1_takeBack 7 0 0 [.ref (d)] h nx (pQ (fun v h1 n1 => n1 = nx ∧ aOff h h1 d 45 ∧ ((ps = [] ∧ v = some (.int (bI false)) ∧ h1 = h) ∨ ∃ m ps2, ps = m :: ps2 ∧ v = some (.int (bI true)) ∧ DeckAt h1 d m ps2 (sc - 1)))) := by
  have hD0 := hD
  obtain ⟨e1, e2, e3, e4, e5, e6, e7⟩ := hD
  refine aMet_of rfl (Nat.le_of_ble_eq_true rfl) ?_
  show aw G mX1_takeBack [] (aRoom 7 0 0) (aEnd G (pQ (fun v h1 n1 => n1 = nx ∧ aOff h h1 d 45 ∧ ((ps = [] ∧ v = some (.int (bI false)) ∧ h1 = h) ∨ ∃ m ps2, ps = m :: ps2 ∧ v = some (.int (bI true)) ∧ DeckAt h1 d m ps2 (sc - 1)))) 0 0) 0 0 h nx 0 [(0, .ref (d))] []
  refine aw_aload_n dX1_takeBack_0 rfl ?_
  refine aw_get 2 e1 rfl rfl (by decide) w_68 rfl dX1_takeBack_1 ?_
  refine aw_if_gtN (tgt := 9) (by omega) dX1_takeBack_4 (by decide) (fun c1 => ?_) (fun c1 => ?_)
  · skip
    obtain ⟨m, ps2, rfl⟩ : ∃ m ps2, ps = m :: ps2 := by cases ps with
      | nil => simp at c1
      | cons m ps2 => exact ⟨m, ps2, rfl⟩
    refine aw_aload_n dX1_takeBack_9 rfl ?_
    refine aw_dup dX1_takeBack_10 rfl ?_
    refine aw_get 2 e1 rfl rfl (by decide) w_68 rfl dX1_takeBack_11 ?_
    refine aw_ic dX1_takeBack_14 ic_1 ?_
    refine aw_isubN (by omega) dX1_takeBack_15 ?_
    refine aw_putV (v := .int (nI (((m :: ps2).length) - 1))) (ty := .int) (fs' := [.ref (d + 1), .ref (d + 4), .int (nI (((m :: ps2).length) - 1)), .int (nI (sc))]) 2 e1 rfl rfl (by decide) (by decide +kernel) rfl rfl rfl (Nat.le_of_ble_eq_true rfl) rfl w_68 dX1_takeBack_16 (fun h_1 f_1 o_1 => ?_)
    have f_2 := (o_1 (d + 4) (by omega)).trans e3
    refine aw_aload_n dX1_takeBack_19 rfl ?_
    refine aw_dup dX1_takeBack_20 rfl ?_
    refine aw_get 3 f_1 rfl rfl (by decide) w_69 rfl dX1_takeBack_21 ?_
    refine aw_ic dX1_takeBack_24 ic_1 ?_
    refine aw_isubN (by omega) dX1_takeBack_25 ?_
    refine aw_putV (v := .int (nI (sc - 1))) (ty := .int) (fs' := [.ref (d + 1), .ref (d + 4), .int (nI (((m :: ps2).length) - 1)), .int (nI (sc - 1))]) 3 f_1 rfl rfl (by decide) (by decide +kernel) rfl rfl rfl (Nat.le_of_ble_eq_true rfl) rfl w_69 dX1_takeBack_26 (fun h_2 f_3 o_2 => ?_)
    have f_4 := (o_2 (d + 4) (by omega)).trans f_2
    refine aw_aload_n dX1_takeBack_29 rfl ?_
    refine aw_get 0 f_3 rfl rfl (by decide) w_66 rfl dX1_takeBack_30 ?_
    refine aw_aload_n dX1_takeBack_33 rfl ?_
    refine aw_get 1 f_3 rfl rfl (by decide) w_67 rfl dX1_takeBack_34 ?_
    refine aw_aload_n dX1_takeBack_37 rfl ?_
    refine aw_callVR (As := []) (rest := [.ref (d + 4), .ref (d + 1)]) (c_X1_keptPlace G f_3 (by omega)) kX1_keptPlace w_553 f_3 rfl rfl rfl rfl (Nat.le_of_ble_eq_true rfl) dX1_takeBack_38 ⟨Nat.le_of_ble_eq_true rfl, Nat.le_of_ble_eq_true rfl⟩ ⟨Nat.le_of_ble_eq_true rfl, Nat.le_of_ble_eq_true rfl⟩ ?_
    have hmod : (sc - 1) % 40 < 40 := Nat.mod_lt _ (by decide)
    refine aw_aaloadI f_4 (by omega) (by omega) dX1_takeBack_41 ?_
    refine aw_to ?_ rfl (show ([va_rf ((f40 d) ((sc - 1) % 40)), .ref (d + 1)] : List Value) = ([.ref (d + 5 + (sc - 1) % 40), .ref (d + 1)] : List Value) from by rw [f40_at (by omega)]) rfl
    have e2s := (e2.keep (fun a h1 h2 => o_1 a (by omega))).keep (fun a h1 h2 => o_2 a (by omega))
    have e2c := e2s
    obtain ⟨u_1f, u_1g, u_11, u_12, u_13, u_1l, u_1v⟩ := e2c
    have hK0 := e7 0 (by simp)
    rw [Nat.sub_zero] at hK0
    have hK1 := (hK0.keep (o_1 _ (by omega))).keep (o_2 _ (by omega))
    refine aw_callVQ (As := [.ref (d + 5 + (sc - 1) % 40)]) (rest := []) (c_X3_restore G e2s hK1 (by simpa using hl m (by simp)) (by omega)) kX3_restore w_582 u_11 rfl rfl rfl rfl (Nat.le_of_ble_eq_true rfl) dX1_takeBack_42 ⟨Nat.le_of_ble_eq_true rfl, Nat.le_of_ble_eq_true rfl⟩ ⟨Nat.le_of_ble_eq_true rfl, Nat.le_of_ble_eq_true rfl⟩ (fun v_1 h_3 n_1 q_1 z_1 => ?_)
    obtain ⟨rfl, rfl, R_1, o_3⟩ := q_1
    refine aw_ic dX1_takeBack_45 ic_1 ?_
    have oT : ∀ a, a ≠ d → (a < d + 1 ∨ d + 1 + 3 ≤ a) → h_3 a = h a := fun a g1 g3 => (o_3 a g3).trans ((o_2 a g1).trans (o_1 a g1))
    refine aw_zreturn dX1_takeBack_46 rfl (bI_nar true) ⟨_, rfl, rfl, fun a g => oT a (by omega) (by omega), Or.inr ⟨m, ps2, rfl, rfl, ⟨by rw [show ps2.length = (m :: ps2).length - 1 by simp]; exact (o_3 d (by omega)).trans f_3, by simpa using R_1, (oT _ (by omega) (by omega)).trans e3, by simp at e4; omega, by simp at e5; omega, fun i hi => (by obtain ⟨k, hk⟩ := e6 i hi; exact ⟨k, hk.keep (oT _ (by omega) (by omega))⟩), fun j hj => ?_⟩⟩⟩ (Nat.le_of_ble_eq_true rfl) (Nat.le_of_ble_eq_true rfl)
    have e9 := e7 (j + 1) (by simp; omega)
    rw [show sc - 1 - (j + 1) = sc - 1 - 1 - j by omega] at e9
    exact KeptAt.keep (by simpa using e9) (oT _ (by omega) (by omega))
  · skip
    refine aw_ic dX1_takeBack_7 ic_0 ?_
    have c2 : ps = [] := List.length_eq_zero_iff.mp c1
    exact aw_zreturn dX1_takeBack_8 rfl (bI_nar false) ⟨_, rfl, rfl, aOff.rf, Or.inl ⟨c2, rfl, rfl⟩⟩ (Nat.le_of_ble_eq_true rfl) (Nat.le_of_ble_eq_true rfl)
