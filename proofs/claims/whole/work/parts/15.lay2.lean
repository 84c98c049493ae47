set_option maxHeartbeats 4000000 in
set_option maxRecDepth 20000 in
/-- Integer.bitCount -/
theorem c_bitCount (G : aG) {h : aH} {nx m : Nat} (hm : m < 65536) : aMet G mJ6_bitCount_0f7a4 0 0 0 [.int (nI (m))] h nx (pI (nI (ones m 16)) h nx) := by
  have h1 := bc1 hm
  have h2 := bc2 hm
  have h3 := bc3 hm
  have h4 := bc4 hm
  obtain ⟨f0, f2, f3, f4, f5, -⟩ := s_facts (m / 256) (by omega)
  obtain ⟨g0, g2, g3, g4, g5, -⟩ := s_facts (m % 256) (by omega)
  have i1 : m / 2 &&& 1431655765 ≤ m := Nat.le_trans Nat.and_le_left (Nat.div_le_self _ _)
  refine aMet_ofF (by decide +kernel) (Nat.le_of_ble_eq_true rfl) ?_
  show aw G mJ6_bitCount_0f7a4 [] (aRoom 0 0 0) (aEnd G (pI (nI (ones m 16)) h nx) 0 0) 0 0 h nx 0 [(0, .int (nI (m)))] []
  refine aw_iload_n dJ6_bitCount_0f7a4_0 rfl ?_
  refine aw_iload_n dJ6_bitCount_0f7a4_1 rfl ?_
  refine aw_ic dJ6_bitCount_0f7a4_2 ic_1 ?_
  refine aw_iushr dJ6_bitCount_0f7a4_3 (n_ushr (by omega) 1 (by decide)) ?_
  refine aw_top (show (nI (m / 2 ^ 1)) = (nI (m / 2)) from by rw [Nat.pow_one]) ?_
  refine aw_ldcw dJ6_bitCount_0f7a4_4 w_323 ?_
  refine aw_top (show (1431655765 : Int32) = nI 1431655765 by decide) ?_
  refine aw_iand dJ6_bitCount_0f7a4_7 ?_
  refine aw_top (show ((nI (m / 2)) &&& (nI (1431655765))) = (nI (m / 2 &&& 1431655765)) from n_and _ _) ?_
  refine aw_isubN (by omega) dJ6_bitCount_0f7a4_8 ?_
  refine aw_top (show (nI (m - (m / 2 &&& 1431655765))) = (nI (256 * s1 (m / 256) + s1 (m % 256))) from by rw [h1]) ?_
  refine aw_istore_n (L' := [(0, .int (nI (256 * s1 (m / 256) + s1 (m % 256))))]) dJ6_bitCount_0f7a4_9 (by decide) rfl ?_
  refine aw_iload_n dJ6_bitCount_0f7a4_10 rfl ?_
  refine aw_ldcw dJ6_bitCount_0f7a4_11 w_324 ?_
  refine aw_top (show (858993459 : Int32) = nI 858993459 by decide) ?_
  refine aw_iand dJ6_bitCount_0f7a4_14 ?_
  refine aw_top (show ((nI (256 * s1 (m / 256) + s1 (m % 256))) &&& (nI (858993459))) = (nI ((256 * s1 (m / 256) + s1 (m % 256)) &&& 858993459)) from n_and _ _) ?_
  refine aw_iload_n dJ6_bitCount_0f7a4_15 rfl ?_
  refine aw_ic dJ6_bitCount_0f7a4_16 ic_2 ?_
  refine aw_iushr dJ6_bitCount_0f7a4_17 (n_ushr (by omega) 2 (by decide)) ?_
  refine aw_top (show (nI ((256 * s1 (m / 256) + s1 (m % 256)) / 2 ^ 2)) = (nI ((256 * s1 (m / 256) + s1 (m % 256)) / 4)) from rfl) ?_
  refine aw_ldcw dJ6_bitCount_0f7a4_18 w_324 ?_
  refine aw_top (show (858993459 : Int32) = nI 858993459 by decide) ?_
  refine aw_iand dJ6_bitCount_0f7a4_21 ?_
  refine aw_top (show ((nI ((256 * s1 (m / 256) + s1 (m % 256)) / 4)) &&& (nI (858993459))) = (nI ((256 * s1 (m / 256) + s1 (m % 256)) / 4 &&& 858993459)) from n_and _ _) ?_
  refine aw_iaddN dJ6_bitCount_0f7a4_22 ?_
  refine aw_top (show (nI (((256 * s1 (m / 256) + s1 (m % 256)) &&& 858993459) + ((256 * s1 (m / 256) + s1 (m % 256)) / 4 &&& 858993459))) = (nI (256 * s2 (m / 256) + s2 (m % 256))) from by rw [h2]) ?_
  refine aw_istore_n (L' := [(0, .int (nI (256 * s2 (m / 256) + s2 (m % 256))))]) dJ6_bitCount_0f7a4_23 (by decide) rfl ?_
  refine aw_iload_n dJ6_bitCount_0f7a4_24 rfl ?_
  refine aw_iload_n dJ6_bitCount_0f7a4_25 rfl ?_
  refine aw_ic dJ6_bitCount_0f7a4_26 ic_4 ?_
  refine aw_iushr dJ6_bitCount_0f7a4_27 (n_ushr (by omega) 4 (by decide)) ?_
  refine aw_top (show (nI ((256 * s2 (m / 256) + s2 (m % 256)) / 2 ^ 4)) = (nI ((256 * s2 (m / 256) + s2 (m % 256)) / 16)) from rfl) ?_
  refine aw_iaddN dJ6_bitCount_0f7a4_28 ?_
  refine aw_ldcw dJ6_bitCount_0f7a4_29 w_325 ?_
  refine aw_top (show (252645135 : Int32) = nI 252645135 by decide) ?_
  refine aw_iand dJ6_bitCount_0f7a4_32 ?_
  refine aw_top (show ((nI ((256 * s2 (m / 256) + s2 (m % 256)) + ((256 * s2 (m / 256) + s2 (m % 256)) / 16))) &&& (nI (252645135))) = (nI (((256 * s2 (m / 256) + s2 (m % 256)) + (256 * s2 (m / 256) + s2 (m % 256)) / 16) &&& 252645135)) from n_and _ _) ?_
  refine aw_top (show (nI (((256 * s2 (m / 256) + s2 (m % 256)) + (256 * s2 (m / 256) + s2 (m % 256)) / 16) &&& 252645135)) = (nI (256 * s3 (m / 256) + s3 (m % 256))) from by rw [h3]) ?_
  refine aw_istore_n (L' := [(0, .int (nI (256 * s3 (m / 256) + s3 (m % 256))))]) dJ6_bitCount_0f7a4_33 (by decide) rfl ?_
  refine aw_iload_n dJ6_bitCount_0f7a4_34 rfl ?_
  refine aw_iload_n dJ6_bitCount_0f7a4_35 rfl ?_
  refine aw_bp (v := 8) dJ6_bitCount_0f7a4_36 (by decide) ?_
  refine aw_iushr dJ6_bitCount_0f7a4_38 (n_ushr (by omega) 8 (by decide)) ?_
  refine aw_top (show (nI ((256 * s3 (m / 256) + s3 (m % 256)) / 2 ^ 8)) = (nI ((256 * s3 (m / 256) + s3 (m % 256)) / 256)) from rfl) ?_
  refine aw_iaddN dJ6_bitCount_0f7a4_39 ?_
  refine aw_istore_n (L' := [(0, .int (nI ((256 * s3 (m / 256) + s3 (m % 256)) + ((256 * s3 (m / 256) + s3 (m % 256)) / 256))))]) dJ6_bitCount_0f7a4_40 (by decide) rfl ?_
  refine aw_iload_n dJ6_bitCount_0f7a4_41 rfl ?_
  refine aw_iload_n dJ6_bitCount_0f7a4_42 rfl ?_
  refine aw_bp (v := 16) dJ6_bitCount_0f7a4_43 (by decide) ?_
  refine aw_iushr dJ6_bitCount_0f7a4_45 (n_ushr (by omega) 16 (by decide)) ?_
  refine aw_top (show (nI (((256 * s3 (m / 256) + s3 (m % 256)) + (256 * s3 (m / 256) + s3 (m % 256)) / 256) / 2 ^ 16)) = (nI (((256 * s3 (m / 256) + s3 (m % 256)) + (256 * s3 (m / 256) + s3 (m % 256)) / 256) / 65536)) from rfl) ?_
  refine aw_iaddN dJ6_bitCount_0f7a4_46 ?_
  refine aw_istore_n (L' := [(0, .int (nI (((256 * s3 (m / 256) + s3 (m % 256)) + ((256 * s3 (m / 256) + s3 (m % 256)) / 256)) + (((256 * s3 (m / 256) + s3 (m % 256)) + (256 * s3 (m / 256) + s3 (m % 256)) / 256) / 65536))))]) dJ6_bitCount_0f7a4_47 (by decide) rfl ?_
  refine aw_iload_n dJ6_bitCount_0f7a4_48 rfl ?_
  refine aw_bp (v := 63) dJ6_bitCount_0f7a4_49 (by decide) ?_
  refine aw_iand dJ6_bitCount_0f7a4_51 ?_
  refine aw_top (show ((nI (((256 * s3 (m / 256) + s3 (m % 256)) + ((256 * s3 (m / 256) + s3 (m % 256)) / 256)) + (((256 * s3 (m / 256) + s3 (m % 256)) + (256 * s3 (m / 256) + s3 (m % 256)) / 256) / 65536))) &&& (nI (63))) = (nI ((((256 * s3 (m / 256) + s3 (m % 256)) + (256 * s3 (m / 256) + s3 (m % 256)) / 256) + ((256 * s3 (m / 256) + s3 (m % 256)) + (256 * s3 (m / 256) + s3 (m % 256)) / 256) / 65536) &&& 63)) from n_and _ _) ?_
  exact aw_ireturn dJ6_bitCount_0f7a4_52 rfl ⟨r_n (by rw [← h4]), rfl, rfl⟩ (Nat.le_of_ble_eq_true rfl) (Nat.le_of_ble_eq_true rfl)
set_option maxHeartbeats 4000000 in
set_option maxRecDepth 20000 in
/-- layHalves -/
theorem c_X5_layHalves (G : aG) {h : aH} {nx r : Nat} {l : List Nat} {a b k : Nat} (hR : RowAt h r l) (hn : l.length + 2 * k ≤ 16) : aMet G mX5_layHalves 2 0 0 [.ref (r), .int (nI (a)), .int (nI (b)), .int (nI (k))] h nx (pQ (fun v h1 n1 => v = none ∧ n1 = nx ∧ RowAt h1 r (l ++ hlv a b k) ∧ aOff h h1 r 3)) := by
  have hlen : ∀ i, (hlv a b i).length = 2 * i := fun i => by induction i with
    | zero => rfl
    | succ i ih => simp [hlv, ih]; omega
  refine aMet_of rfl (Nat.le_of_ble_eq_true rfl) ?_
  show aw G mX5_layHalves [] (aRoom 2 0 0) (aEnd G (pQ (fun v h1 n1 => v = none ∧ n1 = nx ∧ RowAt h1 r (l ++ hlv a b k) ∧ aOff h h1 r 3)) 0 0) 0 0 h nx 0 [(0, .ref (r)), (1, .int (nI (a))), (2, .int (nI (b))), (3, .int (nI (k)))] []
  refine aw_ic dX5_layHalves_0 ic_0 ?_
  refine aw_istore (L' := [(4, .int (nI (0))), (0, .ref (r)), (1, .int (nI (a))), (2, .int (nI (b))), (3, .int (nI (k)))]) dX5_layHalves_1 (by decide) rfl ?_
  have K : ∀ (d : Nat) (i : Nat) (l1 : List Nat) (h1 : aH), k - i < d → (i ≤ k) → (l1 = l ++ hlv a b i) → (RowAt h1 r l1) → (aOff h h1 r 3) → aw G mX5_layHalves [] (aRoom 2 0 0) (aEnd G (pQ (fun v h1 n1 => v = none ∧ n1 = nx ∧ RowAt h1 r (l ++ hlv a b k) ∧ aOff h h1 r 3)) 0 0) 0 0 h1 nx 3 [(0, .ref (r)), (1, .int (nI (a))), (2, .int (nI (b))), (3, .int (nI (k))), (4, .int (nI (i)))] [] := by
    intro d
    induction d with
    | zero => intro i l1 h1 hMd; exact absurd hMd (Nat.not_lt_zero _)
    | succ d ih =>
      intro i l1 h1 hMd hi hl1 hA ho
      have hA0 := hA
      obtain ⟨u_1f, u_1g, u_11, u_12, u_13, u_1l, u_1v⟩ := hA
      have hll : l1.length = l.length + 2 * i := by rw [hl1, List.length_append, hlen]
      refine aw_iload dX5_layHalves_3 rfl ?_
      refine aw_iload_n dX5_layHalves_5 rfl ?_
      refine aw_icmp_geN (tgt := 31) (by omega) (by omega) dX5_layHalves_6 (by decide) (fun c1 => ?_) (fun c1 => ?_)
      · skip
        exact aw_return dX5_layHalves_31 rfl ⟨_, rfl, rfl, rfl, by rw [← show i = k by omega, ← hl1]; exact hA0, ho⟩ (Nat.le_of_ble_eq_true rfl) (Nat.le_of_ble_eq_true rfl)
      · skip
        refine aw_aload_n dX5_layHalves_9 rfl ?_
        refine aw_iload_n dX5_layHalves_10 rfl ?_
        refine aw_iload dX5_layHalves_11 rfl ?_
        refine aw_iaddN dX5_layHalves_13 ?_
        refine aw_callVQ (As := [.int (nI (a + i))]) (rest := []) (c_X3_add G hA0 (by omega)) kX3_add w_394 u_11 rfl rfl rfl rfl (Nat.le_of_ble_eq_true rfl) dX5_layHalves_14 ⟨Nat.le_of_ble_eq_true rfl, Nat.le_of_ble_eq_true rfl⟩ ⟨Nat.le_of_ble_eq_true rfl, Nat.le_of_ble_eq_true rfl⟩ (fun v_1 h_1 n_1 q_1 z_1 => ?_)
        obtain ⟨rfl, rfl, R_1, o_1⟩ := q_1
        have X_1 := R_1
        obtain ⟨u_2f, u_2g, u_21, u_22, u_23, u_2l, u_2v⟩ := X_1
        refine aw_aload_n dX5_layHalves_17 rfl ?_
        refine aw_iload_n dX5_layHalves_18 rfl ?_
        refine aw_iload dX5_layHalves_19 rfl ?_
        refine aw_iaddN dX5_layHalves_21 ?_
        refine aw_callVQ (As := [.int (nI (b + i))]) (rest := []) (c_X3_add G R_1 (by simp; omega)) kX3_add w_394 u_21 rfl rfl rfl rfl (Nat.le_of_ble_eq_true rfl) dX5_layHalves_22 ⟨Nat.le_of_ble_eq_true rfl, Nat.le_of_ble_eq_true rfl⟩ ⟨Nat.le_of_ble_eq_true rfl, Nat.le_of_ble_eq_true rfl⟩ (fun v_2 h_2 n_2 q_2 z_2 => ?_)
        obtain ⟨rfl, rfl, R_2, o_2⟩ := q_2
        refine aw_iincN (k := 1) (L' := [(4, .int (nI (i + 1))), (0, .ref (r)), (1, .int (nI (a))), (2, .int (nI (b))), (3, .int (nI (k)))]) dX5_layHalves_25 (by decide) rfl (by decide) rfl ?_
        refine aw_goto (tgt := 3) dX5_layHalves_28 (by decide) ?_
        refine aw_sub (L' := [(0, .ref (r)), (1, .int (nI (a))), (2, .int (nI (b))), (3, .int (nI (k))), (4, .int (nI (i + 1)))]) [1, 2, 3, 4, 0] rfl ?_
        exact ih (i + 1) _ h_2 (by omega) (by omega) (by rw [hl1]; simp [hlv]) R_2 ((ho.tr o_1).tr o_2)
  refine aw_sub (L' := [(0, .ref (r)), (1, .int (nI (a))), (2, .int (nI (b))), (3, .int (nI (k))), (4, .int (nI (0)))]) [1, 2, 3, 4, 0] rfl ?_
  exact K (k + 1) 0 _ h (by omega) (Nat.zero_le _) (by simp [hlv]) hR aOff.rf
set_option maxHeartbeats 4000000 in
set_option maxRecDepth 20000 in
/-- layMonge -/
theorem c_X5_layMonge (G : aG) {h : aH} {nx r : Nat} {l : List Nat} {n : Nat} (hR : RowAt h r l) (hl0 : l = []) (hn : 2 ≤ n ∧ n ≤ 16) : aMet G mX5_layMonge 2 0 0 [.ref (r), .int (nI (n))] h nx (pQ (fun v h1 n1 => v = none ∧ n1 = nx ∧ RowAt h1 r (dsc (fun i => decide (i % 2 = 1)) 0 n ++ evn n ((n + 1) / 2)) ∧ aOff h h1 r 3)) := by
  have hd1 : ∀ n, n < 17 → (dsc (fun i => decide (i % 2 = 1)) 0 n).length ≤ n / 2 := by decide
  have hd2 : ∀ k, (evn n k).length = k := fun k => by induction k with
    | zero => rfl
    | succ k ih => simp [evn, ih]
  refine aMet_of rfl (Nat.le_of_ble_eq_true rfl) ?_
  show aw G mX5_layMonge [] (aRoom 2 0 0) (aEnd G (pQ (fun v h1 n1 => v = none ∧ n1 = nx ∧ RowAt h1 r (dsc (fun i => decide (i % 2 = 1)) 0 n ++ evn n ((n + 1) / 2)) ∧ aOff h h1 r 3)) 0 0) 0 0 h nx 0 [(0, .ref (r)), (1, .int (nI (n)))] []
  refine aw_iload_n dX5_layMonge_0 rfl ?_
  refine aw_ic dX5_layMonge_1 ic_1 ?_
  refine aw_isubN (by omega) dX5_layMonge_2 ?_
  refine aw_istore_n (L' := [(2, .int (nI (n - 1))), (0, .ref (r)), (1, .int (nI (n)))]) dX5_layMonge_3 (by decide) rfl ?_
  have K : ∀ (d : Nat) (j : Nat) (l1 : List Nat) (h1 : aH), j < d → (j ≤ n) → (l1 ++ dsc (fun i => decide (i % 2 = 1)) 0 j = dsc (fun i => decide (i % 2 = 1)) 0 n) → (RowAt h1 r l1) → (aOff h h1 r 3) → aw G mX5_layMonge [] (aRoom 2 0 0) (aEnd G (pQ (fun v h1 n1 => v = none ∧ n1 = nx ∧ RowAt h1 r (dsc (fun i => decide (i % 2 = 1)) 0 n ++ evn n ((n + 1) / 2)) ∧ aOff h h1 r 3)) 0 0) 0 0 h1 nx 4 [(0, .ref (r)), (1, .int (nI (n))), (2, .int (dn j))] [] := by
    intro d
    induction d with
    | zero => intro j l1 h1 hMd; exact absurd hMd (Nat.not_lt_zero _)
    | succ d ih =>
      intro j l1 h1 hMd hj hl1 hA ho
      have hA0 := hA
      obtain ⟨u_1f, u_1g, u_11, u_12, u_13, u_1l, u_1v⟩ := hA
      have hlen := congrArg List.length hl1
      rw [List.length_append] at hlen
      have hdn := hd1 n (by omega)
      cases j with
      | zero =>
        refine aw_iload_n dX5_layMonge_4 rfl ?_
        refine aw_if_lt (tgt := 26) dX5_layMonge_5 (by decide) (fun c1 => ?_) (fun c1 => absurd c1 (fun q => q dn_0))
        have hl2 : l1 = dsc (fun i => decide (i % 2 = 1)) 0 n := by simpa [dsc] using hl1
        refine aw_ic dX5_layMonge_26 ic_0 ?_
        refine aw_istore_n (L' := [(2, .int (nI (0))), (0, .ref (r)), (1, .int (nI (n)))]) dX5_layMonge_27 (by decide) rfl ?_
        have hlz : l1.length ≤ n / 2 := by rw [hl2]; exact hdn
        have K2 : ∀ (d : Nat) (t : Nat) (l2 : List Nat) (h2 : aH), n - t < d → (t ≤ (n + 1) / 2) → (l2 = l1 ++ evn n t) → (RowAt h2 r l2) → (aOff h h2 r 3) → aw G mX5_layMonge [] (aRoom 2 0 0) (aEnd G (pQ (fun v h1 n1 => v = none ∧ n1 = nx ∧ RowAt h1 r (dsc (fun i => decide (i % 2 = 1)) 0 n ++ evn n ((n + 1) / 2)) ∧ aOff h h1 r 3)) 0 0) 0 0 h2 nx 28 [(0, .ref (r)), (1, .int (nI (n))), (2, .int (nI (2 * t)))] [] := by
          intro d
          induction d with
          | zero => intro t l2 h2 hMd; exact absurd hMd (Nat.not_lt_zero _)
          | succ d ih =>
            intro t l2 h2 hMd ht hl3 hB ho2
            have hB0 := hB
            obtain ⟨u_2f, u_2g, u_21, u_22, u_23, u_2l, u_2v⟩ := hB
            have hll : l2.length = l1.length + t := by rw [hl3, List.length_append, hd2]
            refine aw_iload_n dX5_layMonge_28 rfl ?_
            refine aw_iload_n dX5_layMonge_29 rfl ?_
            refine aw_icmp_geN (tgt := 44) (by omega) (by omega) dX5_layMonge_30 (by decide) (fun c2 => ?_) (fun c2 => ?_)
            · skip
              exact aw_return dX5_layMonge_44 rfl ⟨_, rfl, rfl, rfl, by rw [← hl2, ← show t = (n + 1) / 2 by omega, ← hl3]; exact hB0, ho2⟩ (Nat.le_of_ble_eq_true rfl) (Nat.le_of_ble_eq_true rfl)
            · skip
              refine aw_aload_n dX5_layMonge_33 rfl ?_
              refine aw_iload_n dX5_layMonge_34 rfl ?_
              refine aw_callVQ (As := [.int (nI (2 * t))]) (rest := []) (c_X3_add G hB0 (by omega)) kX3_add w_394 u_21 rfl rfl rfl rfl (Nat.le_of_ble_eq_true rfl) dX5_layMonge_35 ⟨Nat.le_of_ble_eq_true rfl, Nat.le_of_ble_eq_true rfl⟩ ⟨Nat.le_of_ble_eq_true rfl, Nat.le_of_ble_eq_true rfl⟩ (fun v_1 h_1 n_1 q_1 z_1 => ?_)
              obtain ⟨rfl, rfl, R_1, o_1⟩ := q_1
              refine aw_iincN (k := 2) (L' := [(2, .int (nI ((2 * t) + 2))), (0, .ref (r)), (1, .int (nI (n)))]) dX5_layMonge_38 (by decide) rfl (by decide) rfl ?_
              refine aw_goto (tgt := 28) dX5_layMonge_41 (by decide) ?_
              rw [show 2 * t + 2 = 2 * (t + 1) by omega]
              refine aw_sub (L' := [(0, .ref (r)), (1, .int (nI (n))), (2, .int (nI (2 * (t + 1))))]) [1, 2, 0] rfl ?_
              exact ih (t + 1) _ h_1 (by omega) (by omega) (by rw [hl3]; simp [evn]) R_1 (ho2.tr o_1)
        refine aw_sub (L' := [(0, .ref (r)), (1, .int (nI (n))), (2, .int (nI (0)))]) [1, 2, 0] rfl ?_
        exact K2 (n + 1) 0 l1 h1 (by omega) (Nat.zero_le _) (by simp [evn]) hA0 ho
      | succ k =>
        refine aw_to ?_ (show ([(0, .ref (r)), (1, .int (nI (n))), (2, .int (dn (k + 1)))] : aL) = [(0, .ref (r)), (1, .int (nI (n))), (2, .int (nI (k)))] from rfl) rfl rfl
        refine aw_iload_n dX5_layMonge_4 rfl ?_
        refine aw_if_ltN (tgt := 26) (by omega) dX5_layMonge_5 (by decide) ?_
        refine aw_iload_n dX5_layMonge_8 rfl ?_
        refine aw_ic dX5_layMonge_9 ic_2 ?_
        refine aw_iremN (by omega) (by omega) (by omega) dX5_layMonge_10 ?_
        refine aw_ic dX5_layMonge_11 ic_1 ?_
        have hml := Nat.mod_lt k (show 0 < 2 by decide)
        refine aw_icmp_neN (tgt := 20) (by omega) (by omega) dX5_layMonge_12 (by decide) (fun c1 => ?_) (fun c1 => ?_)
        · skip
          refine aw_iinc (L' := [(2, .int (dn k)), (0, .ref (r)), (1, .int (nI (n)))]) dX5_layMonge_20 rfl (dn_pred k) (by decide) rfl ?_
          refine aw_goto (tgt := 4) dX5_layMonge_23 (by decide) ?_
          refine aw_sub (L' := [(0, .ref (r)), (1, .int (nI (n))), (2, .int (dn k))]) [1, 2, 0] rfl ?_
          exact ih k l1 h1 (by omega) (by omega) (by rw [← hl1]; simp [dsc, show ¬ k % 2 = 1 by omega]) hA0 ho
        · skip
          refine aw_aload_n dX5_layMonge_15 rfl ?_
          refine aw_iload_n dX5_layMonge_16 rfl ?_
          simp only [dsc, c1, decide_true, if_true, List.length_append, List.length_cons, List.length_nil] at hlen
          refine aw_callVQ (As := [.int (nI (k))]) (rest := []) (c_X3_add G hA0 (by omega)) kX3_add w_394 u_11 rfl rfl rfl rfl (Nat.le_of_ble_eq_true rfl) dX5_layMonge_17 ⟨Nat.le_of_ble_eq_true rfl, Nat.le_of_ble_eq_true rfl⟩ ⟨Nat.le_of_ble_eq_true rfl, Nat.le_of_ble_eq_true rfl⟩ (fun v_2 h_2 n_2 q_2 z_2 => ?_)
          obtain ⟨rfl, rfl, R_2, o_2⟩ := q_2
          refine aw_iinc (L' := [(2, .int (dn k)), (0, .ref (r)), (1, .int (nI (n)))]) dX5_layMonge_20 rfl (dn_pred k) (by decide) rfl ?_
          refine aw_goto (tgt := 4) dX5_layMonge_23 (by decide) ?_
          refine aw_sub (L' := [(0, .ref (r)), (1, .int (nI (n))), (2, .int (dn k))]) [1, 2, 0] rfl ?_
          exact ih k _ h_2 (by omega) (by omega) (by rw [← hl1]; simp [dsc, c1]) R_2 (ho.tr o_2)
  refine aw_to ?_ (show ([(2, .int (nI (n - 1))), (0, .ref (r)), (1, .int (nI (n)))] : aL) = [(2, .int (dn n)), (0, .ref (r)), (1, .int (nI (n)))] from by obtain ⟨k, rfl⟩ : ∃ k, n = k + 1 := ⟨n - 1, by omega⟩; rfl) rfl rfl
  refine aw_sub (L' := [(0, .ref (r)), (1, .int (nI (n))), (2, .int (dn n))]) [1, 2, 0] rfl ?_
  exact K (n + 1) n l h (by omega) (Nat.le_refl _) (by rw [hl0]; rfl) hR aOff.rf
set_option maxHeartbeats 4000000 in
set_option maxRecDepth 20000 in
/-- layMilk -/
theorem c_X5_layMilk (G : aG) {h : aH} {nx r : Nat} {l : List Nat} {n : Nat} (hR : RowAt h r l) (hl0 : l = []) (hn : 2 ≤ n ∧ n ≤ 16) : aMet G mX5_layMilk 2 0 0 [.ref (r), .int (nI (n))] h nx (pQ (fun v h1 n1 => v = none ∧ n1 = nx ∧ RowAt h1 r ((if n % 2 = 1 then [2 * (n / 2)] else []) ++ mlk n (n / 2)) ∧ aOff h h1 r 3)) := by
  have hd : ∀ k, (mlk n k).length = 2 * k := fun k => by induction k with
    | zero => rfl
    | succ k ih => simp [mlk, ih]; omega
  have hml := Nat.mod_lt n (show 0 < 2 by decide)
  refine aMet_of rfl (Nat.le_of_ble_eq_true rfl) ?_
  show aw G mX5_layMilk [] (aRoom 2 0 0) (aEnd G (pQ (fun v h1 n1 => v = none ∧ n1 = nx ∧ RowAt h1 r ((if n % 2 = 1 then [2 * (n / 2)] else []) ++ mlk n (n / 2)) ∧ aOff h h1 r 3)) 0 0) 0 0 h nx 0 [(0, .ref (r)), (1, .int (nI (n)))] []
  refine aw_iload_n dX5_layMilk_0 rfl ?_
  refine aw_ic dX5_layMilk_1 ic_2 ?_
  refine aw_idivN (by omega) (by omega) (by omega) dX5_layMilk_2 ?_
  refine aw_istore_n (L' := [(2, .int (nI (n / 2))), (0, .ref (r)), (1, .int (nI (n)))]) dX5_layMilk_3 (by decide) rfl ?_
  refine aw_iload_n dX5_layMilk_4 rfl ?_
  refine aw_ic dX5_layMilk_5 ic_2 ?_
  refine aw_iremN (by omega) (by omega) (by omega) dX5_layMilk_6 ?_
  refine aw_ic dX5_layMilk_7 ic_1 ?_
  have J : ∀ (l9 : List Nat) (h9 : aH), l9 = (if n % 2 = 1 then [2 * (n / 2)] else []) → RowAt h9 r l9 → aOff h h9 r 3 → aw G mX5_layMilk [] (aRoom 2 0 0) (aEnd G (pQ (fun v h1 n1 => v = none ∧ n1 = nx ∧ RowAt h1 r ((if n % 2 = 1 then [2 * (n / 2)] else []) ++ mlk n (n / 2)) ∧ aOff h h1 r 3)) 0 0) 0 0 h9 nx 16 [(2, .int (nI (n / 2))), (0, .ref (r)), (1, .int (nI (n)))] [] := by
    intro l9 h9 hl9 hR9 ho9
    have hl9n : l9.length + 2 * (n / 2) ≤ 16 := by rw [hl9]; split <;> simp <;> omega
    refine aw_iload_n dX5_layMilk_16 rfl ?_
    refine aw_ic dX5_layMilk_17 ic_1 ?_
    refine aw_isubN (by omega) dX5_layMilk_18 ?_
    refine aw_istore_n (L' := [(3, .int (nI ((n / 2) - 1))), (2, .int (nI (n / 2))), (0, .ref (r)), (1, .int (nI (n)))]) dX5_layMilk_19 (by decide) rfl ?_
    have K : ∀ (d : Nat) (j : Nat) (l1 : List Nat) (h1 : aH), j < d → (j ≤ n / 2) → (l1 ++ mlk n j = l9 ++ mlk n (n / 2)) → (RowAt h1 r l1) → (aOff h h1 r 3) → aw G mX5_layMilk [] (aRoom 2 0 0) (aEnd G (pQ (fun v h1 n1 => v = none ∧ n1 = nx ∧ RowAt h1 r ((if n % 2 = 1 then [2 * (n / 2)] else []) ++ mlk n (n / 2)) ∧ aOff h h1 r 3)) 0 0) 0 0 h1 nx 20 [(0, .ref (r)), (1, .int (nI (n))), (2, .int (nI (n / 2))), (3, .int (dn j))] [] := by
      intro d
      induction d with
      | zero => intro j l1 h1 hMd; exact absurd hMd (Nat.not_lt_zero _)
      | succ d ih =>
        intro j l1 h1 hMd hj hl1 hA ho
        have hA0 := hA
        obtain ⟨u_1f, u_1g, u_11, u_12, u_13, u_1l, u_1v⟩ := hA
        have hlen := congrArg List.length hl1
        rw [List.length_append, List.length_append, hd, hd] at hlen
        cases j with
        | zero =>
          refine aw_iload_n dX5_layMilk_20 rfl ?_
          refine aw_if_lt (tgt := 44) dX5_layMilk_21 (by decide) (fun c1 => ?_) (fun c1 => absurd c1 (fun q => q dn_0))
          exact aw_return dX5_layMilk_44 rfl ⟨_, rfl, rfl, rfl, by rw [← hl9, ← hl1]; simpa [mlk] using hA0, ho⟩ (Nat.le_of_ble_eq_true rfl) (Nat.le_of_ble_eq_true rfl)
        | succ k =>
          refine aw_to ?_ (show ([(0, .ref (r)), (1, .int (nI (n))), (2, .int (nI (n / 2))), (3, .int (dn (k + 1)))] : aL) = [(0, .ref (r)), (1, .int (nI (n))), (2, .int (nI (n / 2))), (3, .int (nI (k)))] from rfl) rfl rfl
          refine aw_iload_n dX5_layMilk_20 rfl ?_
          refine aw_if_ltN (tgt := 44) (by omega) dX5_layMilk_21 (by decide) ?_
          refine aw_aload_n dX5_layMilk_24 rfl ?_
          refine aw_iload_n dX5_layMilk_25 rfl ?_
          refine aw_callVQ (As := [.int (nI (k))]) (rest := []) (c_X3_add G hA0 (by omega)) kX3_add w_394 u_11 rfl rfl rfl rfl (Nat.le_of_ble_eq_true rfl) dX5_layMilk_26 ⟨Nat.le_of_ble_eq_true rfl, Nat.le_of_ble_eq_true rfl⟩ ⟨Nat.le_of_ble_eq_true rfl, Nat.le_of_ble_eq_true rfl⟩ (fun v_1 h_1 n_1 q_1 z_1 => ?_)
          obtain ⟨rfl, rfl, R_1, o_1⟩ := q_1
          have X_1 := R_1
          obtain ⟨u_2f, u_2g, u_21, u_22, u_23, u_2l, u_2v⟩ := X_1
          refine aw_aload_n dX5_layMilk_29 rfl ?_
          refine aw_iload_n dX5_layMilk_30 rfl ?_
          refine aw_ic dX5_layMilk_31 ic_1 ?_
          refine aw_isubN (by omega) dX5_layMilk_32 ?_
          refine aw_iload_n dX5_layMilk_33 rfl ?_
          refine aw_isubN (by omega) dX5_layMilk_34 ?_
          refine aw_callVQ (As := [.int (nI ((n - 1) - k))]) (rest := []) (c_X3_add G R_1 (by simp; omega)) kX3_add w_394 u_21 rfl rfl rfl rfl (Nat.le_of_ble_eq_true rfl) dX5_layMilk_35 ⟨Nat.le_of_ble_eq_true rfl, Nat.le_of_ble_eq_true rfl⟩ ⟨Nat.le_of_ble_eq_true rfl, Nat.le_of_ble_eq_true rfl⟩ (fun v_2 h_2 n_2 q_2 z_2 => ?_)
          obtain ⟨rfl, rfl, R_2, o_2⟩ := q_2
          refine aw_iinc (L' := [(3, .int (dn k)), (0, .ref (r)), (1, .int (nI (n))), (2, .int (nI (n / 2)))]) dX5_layMilk_38 rfl (dn_pred k) (by decide) rfl ?_
          refine aw_goto (tgt := 20) dX5_layMilk_41 (by decide) ?_
          refine aw_sub (L' := [(0, .ref (r)), (1, .int (nI (n))), (2, .int (nI (n / 2))), (3, .int (dn k))]) [1, 2, 3, 0] rfl ?_
          exact ih k _ h_2 (by omega) (by omega) (by rw [← hl1]; simp [mlk]) R_2 ((ho.tr o_1).tr o_2)
    refine aw_to ?_ (show ([(3, .int (nI ((n / 2) - 1))), (2, .int (nI (n / 2))), (0, .ref (r)), (1, .int (nI (n)))] : aL) = [(3, .int (dn (n / 2))), (2, .int (nI (n / 2))), (0, .ref (r)), (1, .int (nI (n)))] from by obtain ⟨k, hk⟩ : ∃ k, n / 2 = k + 1 := ⟨n / 2 - 1, by omega⟩; rw [hk]; rfl) rfl rfl
    refine aw_sub (L' := [(0, .ref (r)), (1, .int (nI (n))), (2, .int (nI (n / 2))), (3, .int (dn (n / 2)))]) [2, 3, 1, 0] rfl ?_
    exact K (n / 2 + 1) (n / 2) l9 h9 (by omega) (Nat.le_refl _) rfl hR9 ho9
  refine aw_icmp_neN (tgt := 16) (by omega) (by omega) dX5_layMilk_8 (by decide) (fun c1 => ?_) (fun c1 => ?_)
  · skip
    exact J l h (by rw [hl0, if_neg c1]) hR aOff.rf
  · skip
    have hRx := hR
    obtain ⟨u_3f, u_3g, u_31, u_32, u_33, u_3l, u_3v⟩ := hRx
    refine aw_aload_n dX5_layMilk_11 rfl ?_
    refine aw_iload_n dX5_layMilk_12 rfl ?_
    refine aw_callVQ (As := [.int (nI (n / 2))]) (rest := []) (c_X3_add G hR (by rw [hl0]; decide)) kX3_add w_394 u_31 rfl rfl rfl rfl (Nat.le_of_ble_eq_true rfl) dX5_layMilk_13 ⟨Nat.le_of_ble_eq_true rfl, Nat.le_of_ble_eq_true rfl⟩ ⟨Nat.le_of_ble_eq_true rfl, Nat.le_of_ble_eq_true rfl⟩ (fun v_3 h_3 n_3 q_3 z_3 => ?_)
    obtain ⟨rfl, rfl, R_3, o_3⟩ := q_3
    exact J _ h_3 (by rw [hl0, if_pos c1]; rfl) R_3 o_3
set_option maxHeartbeats 4000000 in
set_option maxRecDepth 20000 in
/-- layDeal -/
theorem c_X5_layDeal (G : aG) {h : aH} {nx r : Nat} {l : List Nat} {m n : Nat} (hR : RowAt h r l) (hl0 : l = []) (hn : 2 ≤ n ∧ n ≤ 16) (hm : 2 ≤ m ∧ m ≤ 4) : aMet G mX5_layDeal 2 0 0 [.ref (r), .int (nI (m)), .int (nI (n))] h nx (pQ (fun v h1 n1 => v = none ∧ n1 = nx ∧ RowAt h1 r (dls m n m) ∧ aOff h h1 r 3)) := by
  have hd : ∀ m, m < 5 → ∀ n, n < 17 → 2 ≤ m → (dls m n m).length ≤ 16 := by decide +kernel
  have hd0 := hd m (by omega) n (by omega) hm.1
  have hpre : ∀ a b, a ≤ b → ∃ t, dls m n b = dls m n a ++ t := fun a b hab => by
    induction b with
    | zero => exact ⟨[], by rw [show a = 0 by omega]; rfl⟩
    | succ b ih =>
      rcases Nat.lt_or_ge a (b + 1) with q | q
      · obtain ⟨t, e⟩ := ih (by omega); exact ⟨t ++ dsc (fun i => decide (i % m = b)) 0 n, by simp only [dls]; rw [e, List.append_assoc]⟩
      · exact ⟨[], by rw [show a = b + 1 by omega]; simp⟩
  refine aMet_of rfl (Nat.le_of_ble_eq_true rfl) ?_
  show aw G mX5_layDeal [] (aRoom 2 0 0) (aEnd G (pQ (fun v h1 n1 => v = none ∧ n1 = nx ∧ RowAt h1 r (dls m n m) ∧ aOff h h1 r 3)) 0 0) 0 0 h nx 0 [(0, .ref (r)), (1, .int (nI (m))), (2, .int (nI (n)))] []
  refine aw_ic dX5_layDeal_0 ic_0 ?_
  refine aw_istore_n (L' := [(3, .int (nI (0))), (0, .ref (r)), (1, .int (nI (m))), (2, .int (nI (n)))]) dX5_layDeal_1 (by decide) rfl ?_
  have K : ∀ (d : Nat) (p : Nat) (l1 : List Nat) (h1 : aH), m - p < d → (p ≤ m) → (l1 = dls m n p) → (RowAt h1 r l1) → (aOff h h1 r 3) → aw G mX5_layDeal [] (aRoom 2 0 0) (aEnd G (pQ (fun v h1 n1 => v = none ∧ n1 = nx ∧ RowAt h1 r (dls m n m) ∧ aOff h h1 r 3)) 0 0) 0 0 h1 nx 2 [(0, .ref (r)), (1, .int (nI (m))), (2, .int (nI (n))), (3, .int (nI (p)))] [] := by
    intro d
    induction d with
    | zero => intro p l1 h1 hMd; exact absurd hMd (Nat.not_lt_zero _)
    | succ d ih =>
      intro p l1 h1 hMd hp hl1 hA ho
      have hA0 := hA
      obtain ⟨u_1f, u_1g, u_11, u_12, u_13, u_1l, u_1v⟩ := hA
      refine aw_iload_n dX5_layDeal_2 rfl ?_
      refine aw_iload_n dX5_layDeal_3 rfl ?_
      refine aw_icmp_geN (tgt := 43) (by omega) (by omega) dX5_layDeal_4 (by decide) (fun c1 => ?_) (fun c1 => ?_)
      · skip
        exact aw_return dX5_layDeal_43 rfl ⟨_, rfl, rfl, rfl, by rw [hl1, show p = m by omega] at hA0; exact hA0, ho⟩ (Nat.le_of_ble_eq_true rfl) (Nat.le_of_ble_eq_true rfl)
      · skip
        refine aw_iload_n dX5_layDeal_7 rfl ?_
        refine aw_ic dX5_layDeal_8 ic_1 ?_
        refine aw_isubN (by omega) dX5_layDeal_9 ?_
        refine aw_istore (L' := [(4, .int (nI (n - 1))), (0, .ref (r)), (1, .int (nI (m))), (2, .int (nI (n))), (3, .int (nI (p)))]) dX5_layDeal_10 (by decide) rfl ?_
        have ihO := ih
        have K2 : ∀ (d : Nat) (j : Nat) (l2 : List Nat) (h2 : aH), j < d → (j ≤ n) → (l2 ++ dsc (fun i => decide (i % m = p)) 0 j = dls m n (p + 1)) → (RowAt h2 r l2) → (aOff h h2 r 3) → aw G mX5_layDeal [] (aRoom 2 0 0) (aEnd G (pQ (fun v h1 n1 => v = none ∧ n1 = nx ∧ RowAt h1 r (dls m n m) ∧ aOff h h1 r 3)) 0 0) 0 0 h2 nx 12 [(0, .ref (r)), (1, .int (nI (m))), (2, .int (nI (n))), (3, .int (nI (p))), (4, .int (dn j))] [] := by
          intro d
          induction d with
          | zero => intro j l2 h2 hMd; exact absurd hMd (Nat.not_lt_zero _)
          | succ d ih =>
            intro j l2 h2 hMd hj hl2 hB ho2
            have hB0 := hB
            obtain ⟨u_2f, u_2g, u_21, u_22, u_23, u_2l, u_2v⟩ := hB
            have hlen := congrArg List.length hl2
            rw [List.length_append] at hlen
            obtain ⟨tl, htl⟩ := hpre (p + 1) m (by omega)
            have hlt := congrArg List.length htl
            rw [List.length_append] at hlt
            cases j with
            | zero =>
              refine aw_iload dX5_layDeal_12 rfl ?_
              refine aw_if_lt (tgt := 37) dX5_layDeal_14 (by decide) (fun c2 => ?_) (fun c2 => absurd c2 (fun q => q dn_0))
              refine aw_iincN (k := 1) (L' := [(3, .int (nI (p + 1))), (0, .ref (r)), (1, .int (nI (m))), (2, .int (nI (n))), (4, .int (dn 0))]) dX5_layDeal_37 (by decide) rfl (by decide) rfl ?_
              refine aw_goto (tgt := 2) dX5_layDeal_40 (by decide) ?_
              refine aw_sub (L' := [(0, .ref (r)), (1, .int (nI (m))), (2, .int (nI (n))), (3, .int (nI (p + 1)))]) [1, 2, 3, 0] rfl ?_
              exact ihO (p + 1) l2 h2 (by omega) (by omega) (by simpa [dsc] using hl2) hB0 ho2
            | succ k =>
              refine aw_to ?_ (show ([(0, .ref (r)), (1, .int (nI (m))), (2, .int (nI (n))), (3, .int (nI (p))), (4, .int (dn (k + 1)))] : aL) = [(0, .ref (r)), (1, .int (nI (m))), (2, .int (nI (n))), (3, .int (nI (p))), (4, .int (nI (k)))] from rfl) rfl rfl
              refine aw_iload dX5_layDeal_12 rfl ?_
              refine aw_if_ltN (tgt := 37) (by omega) dX5_layDeal_14 (by decide) ?_
              refine aw_iload dX5_layDeal_17 rfl ?_
              refine aw_iload_n dX5_layDeal_19 rfl ?_
              refine aw_iremN (by omega) (by omega) (by omega) dX5_layDeal_20 ?_
              refine aw_iload_n dX5_layDeal_21 rfl ?_
              have hml := Nat.mod_lt k (show 0 < m by omega)
              refine aw_icmp_neN (tgt := 31) (by omega) (by omega) dX5_layDeal_22 (by decide) (fun c2 => ?_) (fun c2 => ?_)
              · skip
                refine aw_iinc (L' := [(4, .int (dn k)), (0, .ref (r)), (1, .int (nI (m))), (2, .int (nI (n))), (3, .int (nI (p)))]) dX5_layDeal_31 rfl (dn_pred k) (by decide) rfl ?_
                refine aw_goto (tgt := 12) dX5_layDeal_34 (by decide) ?_
                refine aw_sub (L' := [(0, .ref (r)), (1, .int (nI (m))), (2, .int (nI (n))), (3, .int (nI (p))), (4, .int (dn k))]) [1, 2, 3, 4, 0] rfl ?_
                exact ih k l2 h2 (by omega) (by omega) (by rw [← hl2]; simp [dsc, c2]) hB0 ho2
              · skip
                refine aw_aload_n dX5_layDeal_25 rfl ?_
                refine aw_iload dX5_layDeal_26 rfl ?_
                simp only [dsc, c2, decide_true, if_true, List.length_append, List.length_cons, List.length_nil] at hlen
                refine aw_callVQ (As := [.int (nI (k))]) (rest := []) (c_X3_add G hB0 (by omega)) kX3_add w_394 u_21 rfl rfl rfl rfl (Nat.le_of_ble_eq_true rfl) dX5_layDeal_28 ⟨Nat.le_of_ble_eq_true rfl, Nat.le_of_ble_eq_true rfl⟩ ⟨Nat.le_of_ble_eq_true rfl, Nat.le_of_ble_eq_true rfl⟩ (fun v_1 h_1 n_1 q_1 z_1 => ?_)
                obtain ⟨rfl, rfl, R_1, o_1⟩ := q_1
                refine aw_iinc (L' := [(4, .int (dn k)), (0, .ref (r)), (1, .int (nI (m))), (2, .int (nI (n))), (3, .int (nI (p)))]) dX5_layDeal_31 rfl (dn_pred k) (by decide) rfl ?_
                refine aw_goto (tgt := 12) dX5_layDeal_34 (by decide) ?_
                refine aw_sub (L' := [(0, .ref (r)), (1, .int (nI (m))), (2, .int (nI (n))), (3, .int (nI (p))), (4, .int (dn k))]) [1, 2, 3, 4, 0] rfl ?_
                exact ih k _ h_1 (by omega) (by omega) (by rw [← hl2]; simp [dsc, c2]) R_1 (ho2.tr o_1)
        refine aw_to ?_ (show ([(4, .int (nI (n - 1))), (0, .ref (r)), (1, .int (nI (m))), (2, .int (nI (n))), (3, .int (nI (p)))] : aL) = [(4, .int (dn n)), (0, .ref (r)), (1, .int (nI (m))), (2, .int (nI (n))), (3, .int (nI (p)))] from by obtain ⟨k, rfl⟩ : ∃ k, n = k + 1 := ⟨n - 1, by omega⟩; rfl) rfl rfl
        refine aw_sub (L' := [(0, .ref (r)), (1, .int (nI (m))), (2, .int (nI (n))), (3, .int (nI (p))), (4, .int (dn n))]) [1, 2, 3, 4, 0] rfl ?_
        exact K2 (n + 1) n l1 h1 (by omega) (Nat.le_refl _) (by rw [hl1]; rfl) hA0 ho
  refine aw_sub (L' := [(0, .ref (r)), (1, .int (nI (m))), (2, .int (nI (n))), (3, .int (nI (0)))]) [1, 2, 3, 0] rfl ?_
  exact K (m + 1) 0 l h (by omega) (Nat.zero_le _) (by rw [hl0]; rfl) hR aOff.rf
set_option maxHeartbeats 4000000 in
set_option maxRecDepth 20000 in
/-- X5_layBack -/
theorem c_X5_layBack (G : aG) {h : aH} {nx r : Nat} {l : List Nat} {m n : Nat} (hR : RowAt h r l) (hl0 : l = []) (hn : 2 ≤ n ∧ n ≤ 16) (hm : m ≤ n) : aMet G mX5_layBack 3 0 0 [.ref (r), .int (nI (m)), .int (nI (n))] h nx (pQ (fun v h1 n1 => v = none ∧ n1 = nx ∧ RowAt h1 r (dsc (fun _ => true) 0 m ++ spn m n) ∧ aOff h h1 r 3)) := by
  have hd : ∀ k, (dsc (fun _ => true) 0 k).length = k := fun k => by induction k with
    | zero => rfl
    | succ k ih => simp [dsc, ih]
  refine aMet_of rfl (Nat.le_of_ble_eq_true rfl) ?_
  show aw G mX5_layBack [] (aRoom 3 0 0) (aEnd G (pQ (fun v h1 n1 => v = none ∧ n1 = nx ∧ RowAt h1 r (dsc (fun _ => true) 0 m ++ spn m n) ∧ aOff h h1 r 3)) 0 0) 0 0 h nx 0 [(0, .ref (r)), (1, .int (nI (m))), (2, .int (nI (n)))] []
  refine aw_iload_n dX5_layBack_0 rfl ?_
  refine aw_ic dX5_layBack_1 ic_1 ?_
  refine aw_isub dX5_layBack_2 ?_
  refine aw_top (show nI m - nI 1 = dn m from by cases m with | zero => decide | succ k => exact nI_pred k) ?_
  refine aw_istore_n (L' := [(3, .int (dn m)), (0, .ref (r)), (1, .int (nI (m))), (2, .int (nI (n)))]) dX5_layBack_3 (by decide) rfl ?_
  have K : ∀ (d : Nat) (j : Nat) (l1 : List Nat) (h1 : aH), j < d → (j ≤ m) → (l1 ++ dsc (fun _ => true) 0 j = dsc (fun _ => true) 0 m) → (RowAt h1 r l1) → (aOff h h1 r 3) → aw G mX5_layBack [] (aRoom 3 0 0) (aEnd G (pQ (fun v h1 n1 => v = none ∧ n1 = nx ∧ RowAt h1 r (dsc (fun _ => true) 0 m ++ spn m n) ∧ aOff h h1 r 3)) 0 0) 0 0 h1 nx 4 [(0, .ref (r)), (1, .int (nI (m))), (2, .int (nI (n))), (3, .int (dn j))] [] := by
    intro d
    induction d with
    | zero => intro j l1 h1 hMd; exact absurd hMd (Nat.not_lt_zero _)
    | succ d ih =>
      intro j l1 h1 hMd hj hl1 hA ho
      have hA0 := hA
      obtain ⟨u_1f, u_1g, u_11, u_12, u_13, u_1l, u_1v⟩ := hA
      have hlen := congrArg List.length hl1
      rw [List.length_append, hd, hd] at hlen
      cases j with
      | zero =>
        refine aw_iload_n dX5_layBack_4 rfl ?_
        refine aw_if_lt (tgt := 19) dX5_layBack_5 (by decide) (fun c1 => ?_) (fun c1 => absurd c1 (fun q => q dn_0))
        refine aw_aload_n dX5_layBack_19 rfl ?_
        refine aw_iload_n dX5_layBack_20 rfl ?_
        refine aw_iload_n dX5_layBack_21 rfl ?_
        refine aw_callVQ (As := [.int (nI (m)), .int (nI (n))]) (rest := []) (c_X3_addSpan G hA0 hm (by omega) (by omega)) kX3_addSpan w_383 u_11 rfl rfl rfl rfl (Nat.le_of_ble_eq_true rfl) dX5_layBack_22 ⟨Nat.le_of_ble_eq_true rfl, Nat.le_of_ble_eq_true rfl⟩ ⟨Nat.le_of_ble_eq_true rfl, Nat.le_of_ble_eq_true rfl⟩ (fun v_1 h_1 n_1 q_1 z_1 => ?_)
        obtain ⟨rfl, rfl, R_1, o_1⟩ := q_1
        exact aw_return dX5_layBack_25 rfl ⟨_, rfl, rfl, rfl, by rw [← hl1]; simpa [dsc, spn] using R_1, ho.tr o_1⟩ (Nat.le_of_ble_eq_true rfl) (Nat.le_of_ble_eq_true rfl)
      | succ k =>
        refine aw_to ?_ (show ([(0, .ref (r)), (1, .int (nI (m))), (2, .int (nI (n))), (3, .int (dn (k + 1)))] : aL) = [(0, .ref (r)), (1, .int (nI (m))), (2, .int (nI (n))), (3, .int (nI (k)))] from rfl) rfl rfl
        refine aw_iload_n dX5_layBack_4 rfl ?_
        refine aw_if_ltN (tgt := 19) (by omega) dX5_layBack_5 (by decide) ?_
        refine aw_aload_n dX5_layBack_8 rfl ?_
        refine aw_iload_n dX5_layBack_9 rfl ?_
        refine aw_callVQ (As := [.int (nI (k))]) (rest := []) (c_X3_add G hA0 (by omega)) kX3_add w_394 u_11 rfl rfl rfl rfl (Nat.le_of_ble_eq_true rfl) dX5_layBack_10 ⟨Nat.le_of_ble_eq_true rfl, Nat.le_of_ble_eq_true rfl⟩ ⟨Nat.le_of_ble_eq_true rfl, Nat.le_of_ble_eq_true rfl⟩ (fun v_2 h_2 n_2 q_2 z_2 => ?_)
        obtain ⟨rfl, rfl, R_2, o_2⟩ := q_2
        refine aw_iinc (L' := [(3, .int (dn k)), (0, .ref (r)), (1, .int (nI (m))), (2, .int (nI (n)))]) dX5_layBack_13 rfl (dn_pred k) (by decide) rfl ?_
        refine aw_goto (tgt := 4) dX5_layBack_16 (by decide) ?_
        refine aw_sub (L' := [(0, .ref (r)), (1, .int (nI (m))), (2, .int (nI (n))), (3, .int (dn k))]) [1, 2, 3, 0] rfl ?_
        exact ih k _ h_2 (by omega) (by omega) (by rw [← hl1]; simp [dsc]) R_2 (ho.tr o_2)
  refine aw_sub (L' := [(0, .ref (r)), (1, .int (nI (m))), (2, .int (nI (n))), (3, .int (dn m))]) [1, 2, 3, 0] rfl ?_
  exact K (m + 1) m l h (by omega) (Nat.le_refl _) (by rw [hl0]; rfl) hR aOff.rf
set_option maxHeartbeats 4000000 in
set_option maxRecDepth 20000 in
/-- X5_layOver -/
theorem c_X5_layOver (G : aG) {h : aH} {nx r : Nat} {l : List Nat} {m n : Nat} (hR : RowAt h r l) (hl0 : l = []) (hn : 2 ≤ n ∧ n ≤ 16) (hm : m ≤ n) : aMet G mX5_layOver 3 0 0 [.ref (r), .int (nI (m)), .int (nI (n))] h nx (pQ (fun v h1 n1 => v = none ∧ n1 = nx ∧ RowAt h1 r (dsc (fun _ => true) 1 m ++ spn m n) ∧ aOff h h1 r 3)) := by
  have hd : ∀ k, (dsc (fun _ => true) 1 k).length = k := fun k => by induction k with
    | zero => rfl
    | succ k ih => simp [dsc, ih]
  refine aMet_of rfl (Nat.le_of_ble_eq_true rfl) ?_
  show aw G mX5_layOver [] (aRoom 3 0 0) (aEnd G (pQ (fun v h1 n1 => v = none ∧ n1 = nx ∧ RowAt h1 r (dsc (fun _ => true) 1 m ++ spn m n) ∧ aOff h h1 r 3)) 0 0) 0 0 h nx 0 [(0, .ref (r)), (1, .int (nI (m))), (2, .int (nI (n)))] []
  refine aw_iload_n dX5_layOver_0 rfl ?_
  refine aw_ic dX5_layOver_1 ic_1 ?_
  refine aw_isub dX5_layOver_2 ?_
  refine aw_top (show nI m - nI 1 = dn m from by cases m with | zero => decide | succ k => exact nI_pred k) ?_
  refine aw_istore_n (L' := [(3, .int (dn m)), (0, .ref (r)), (1, .int (nI (m))), (2, .int (nI (n)))]) dX5_layOver_3 (by decide) rfl ?_
  have K : ∀ (d : Nat) (j : Nat) (l1 : List Nat) (h1 : aH), j < d → (j ≤ m) → (l1 ++ dsc (fun _ => true) 1 j = dsc (fun _ => true) 1 m) → (RowAt h1 r l1) → (aOff h h1 r 3) → aw G mX5_layOver [] (aRoom 3 0 0) (aEnd G (pQ (fun v h1 n1 => v = none ∧ n1 = nx ∧ RowAt h1 r (dsc (fun _ => true) 1 m ++ spn m n) ∧ aOff h h1 r 3)) 0 0) 0 0 h1 nx 4 [(0, .ref (r)), (1, .int (nI (m))), (2, .int (nI (n))), (3, .int (dn j))] [] := by
    intro d
    induction d with
    | zero => intro j l1 h1 hMd; exact absurd hMd (Nat.not_lt_zero _)
    | succ d ih =>
      intro j l1 h1 hMd hj hl1 hA ho
      have hA0 := hA
      obtain ⟨u_1f, u_1g, u_11, u_12, u_13, u_1l, u_1v⟩ := hA
      have hlen := congrArg List.length hl1
      rw [List.length_append, hd, hd] at hlen
      cases j with
      | zero =>
        refine aw_iload_n dX5_layOver_4 rfl ?_
        refine aw_if_lt (tgt := 19) dX5_layOver_5 (by decide) (fun c1 => ?_) (fun c1 => absurd c1 (fun q => q dn_0))
        refine aw_aload_n dX5_layOver_19 rfl ?_
        refine aw_iload_n dX5_layOver_20 rfl ?_
        refine aw_iload_n dX5_layOver_21 rfl ?_
        refine aw_callVQ (As := [.int (nI (m)), .int (nI (n))]) (rest := []) (c_X3_addSpan G hA0 hm (by omega) (by omega)) kX3_addSpan w_383 u_11 rfl rfl rfl rfl (Nat.le_of_ble_eq_true rfl) dX5_layOver_22 ⟨Nat.le_of_ble_eq_true rfl, Nat.le_of_ble_eq_true rfl⟩ ⟨Nat.le_of_ble_eq_true rfl, Nat.le_of_ble_eq_true rfl⟩ (fun v_1 h_1 n_1 q_1 z_1 => ?_)
        obtain ⟨rfl, rfl, R_1, o_1⟩ := q_1
        exact aw_return dX5_layOver_25 rfl ⟨_, rfl, rfl, rfl, by rw [← hl1]; simpa [dsc, spn] using R_1, ho.tr o_1⟩ (Nat.le_of_ble_eq_true rfl) (Nat.le_of_ble_eq_true rfl)
      | succ k =>
        refine aw_to ?_ (show ([(0, .ref (r)), (1, .int (nI (m))), (2, .int (nI (n))), (3, .int (dn (k + 1)))] : aL) = [(0, .ref (r)), (1, .int (nI (m))), (2, .int (nI (n))), (3, .int (nI (k)))] from rfl) rfl rfl
        refine aw_iload_n dX5_layOver_4 rfl ?_
        refine aw_if_ltN (tgt := 19) (by omega) dX5_layOver_5 (by decide) ?_
        refine aw_aload_n dX5_layOver_8 rfl ?_
        refine aw_iload_n dX5_layOver_9 rfl ?_
        refine aw_callVQ (As := [.int (nI (k))]) (rest := []) (c_X3_addTurned G hA0 (by omega)) kX3_addTurned w_413 u_11 rfl rfl rfl rfl (Nat.le_of_ble_eq_true rfl) dX5_layOver_10 ⟨Nat.le_of_ble_eq_true rfl, Nat.le_of_ble_eq_true rfl⟩ ⟨Nat.le_of_ble_eq_true rfl, Nat.le_of_ble_eq_true rfl⟩ (fun v_2 h_2 n_2 q_2 z_2 => ?_)
        obtain ⟨rfl, rfl, R_2, o_2⟩ := q_2
        refine aw_iinc (L' := [(3, .int (dn k)), (0, .ref (r)), (1, .int (nI (m))), (2, .int (nI (n)))]) dX5_layOver_13 rfl (dn_pred k) (by decide) rfl ?_
        refine aw_goto (tgt := 4) dX5_layOver_16 (by decide) ?_
        refine aw_sub (L' := [(0, .ref (r)), (1, .int (nI (m))), (2, .int (nI (n))), (3, .int (dn k))]) [1, 2, 3, 0] rfl ?_
        exact ih k _ h_2 (by omega) (by omega) (by rw [← hl1]; simp [dsc]) R_2 (ho.tr o_2)
  refine aw_sub (L' := [(0, .ref (r)), (1, .int (nI (m))), (2, .int (nI (n))), (3, .int (dn m))]) [1, 2, 3, 0] rfl ?_
  exact K (m + 1) m l h (by omega) (Nat.le_refl _) (by rw [hl0]; rfl) hR aOff.rf
set_option maxHeartbeats 4000000 in
set_option maxRecDepth 20000 in
/-- layRiffle -/
theorem c_X5_layRiffle (G : aG) {h : aH} {nx r : Nat} {l : List Nat} {m n : Nat} (hR : RowAt h r l) (hl0 : l = []) (hn : 2 ≤ n ∧ n ≤ 16) (hm : m < 2 ^ n) : aMet G mX5_layRiffle 2 0 0 [.ref (r), .int (nI (m)), .int (nI (n))] h nx (pQ (fun v h1 n1 => v = none ∧ n1 = nx ∧ RowAt h1 r (rif m n n) ∧ aOff h h1 r 3)) := by
  have hm2 : m < 2 ^ 16 := Nat.lt_of_lt_of_le hm (Nat.pow_le_pow_right (by decide) hn.2)
  have ho16 := ones_16 hn.2 hm
  have hon : ones m n ≤ n := ct_le (fun j => m.testBit j) n
  refine aMet_of rfl (Nat.le_of_ble_eq_true rfl) ?_
  show aw G mX5_layRiffle [] (aRoom 2 0 0) (aEnd G (pQ (fun v h1 n1 => v = none ∧ n1 = nx ∧ RowAt h1 r (rif m n n) ∧ aOff h h1 r 3)) 0 0) 0 0 h nx 0 [(0, .ref (r)), (1, .int (nI (m))), (2, .int (nI (n)))] []
  refine aw_ic dX5_layRiffle_0 ic_0 ?_
  refine aw_istore_n (L' := [(3, .int (nI (0))), (0, .ref (r)), (1, .int (nI (m))), (2, .int (nI (n)))]) dX5_layRiffle_1 (by decide) rfl ?_
  refine aw_iload_n dX5_layRiffle_2 rfl ?_
  refine aw_iload_n dX5_layRiffle_3 rfl ?_
  refine aw_callSR (As := [.int (nI (m))]) (rest := [.int (nI (n))]) (c_bitCount G hm2) kJ6_bitCount_0f7a4 w_420 rfl rfl (Nat.le_of_ble_eq_true rfl) dX5_layRiffle_4 ⟨Nat.le_of_ble_eq_true rfl, Nat.le_of_ble_eq_true rfl⟩ ⟨Nat.le_of_ble_eq_true rfl, Nat.le_of_ble_eq_true rfl⟩ ?_
  rw [ho16]
  refine aw_isubN (by omega) dX5_layRiffle_7 ?_
  refine aw_istore (L' := [(4, .int (nI (n - (ones m n)))), (3, .int (nI (0))), (0, .ref (r)), (1, .int (nI (m))), (2, .int (nI (n)))]) dX5_layRiffle_8 (by decide) rfl ?_
  refine aw_ic dX5_layRiffle_10 ic_0 ?_
  refine aw_istore (L' := [(5, .int (nI (0))), (4, .int (nI (n - (ones m n)))), (3, .int (nI (0))), (0, .ref (r)), (1, .int (nI (m))), (2, .int (nI (n)))]) dX5_layRiffle_11 (by decide) rfl ?_
  have K : ∀ (d : Nat) (i : Nat) (l1 : List Nat) (h1 : aH), n - i < d → (i ≤ n) → (l1 = rif m n i) → (RowAt h1 r l1) → (aOff h h1 r 3) → aw G mX5_layRiffle [] (aRoom 2 0 0) (aEnd G (pQ (fun v h1 n1 => v = none ∧ n1 = nx ∧ RowAt h1 r (rif m n n) ∧ aOff h h1 r 3)) 0 0) 0 0 h1 nx 13 [(0, .ref (r)), (1, .int (nI (m))), (2, .int (nI (n))), (3, .int (nI (i - ones m i))), (4, .int (nI (n - ones m n + ones m i))), (5, .int (nI (i)))] [] := by
    intro d
    induction d with
    | zero => intro i l1 h1 hMd; exact absurd hMd (Nat.not_lt_zero _)
    | succ d ih =>
      intro i l1 h1 hMd hi hl1 hA ho
      have hA0 := hA
      obtain ⟨u_1f, u_1g, u_11, u_12, u_13, u_1l, u_1v⟩ := hA
      have hoi : ones m i ≤ i := ct_le (fun j => m.testBit j) i
      have hll := (rif_ok (m := m) i hi).1
      rw [← hl1] at hll
      refine aw_iload dX5_layRiffle_13 rfl ?_
      refine aw_iload_n dX5_layRiffle_15 rfl ?_
      refine aw_icmp_geN (tgt := 54) (by omega) (by omega) dX5_layRiffle_16 (by decide) (fun c1 => ?_) (fun c1 => ?_)
      · skip
        exact aw_return dX5_layRiffle_54 rfl ⟨_, rfl, rfl, rfl, by rw [hl1, show i = n by omega] at hA0; exact hA0, ho⟩ (Nat.le_of_ble_eq_true rfl) (Nat.le_of_ble_eq_true rfl)
      · skip
        refine aw_iload_n dX5_layRiffle_19 rfl ?_
        refine aw_iload dX5_layRiffle_20 rfl ?_
        refine aw_ishr dX5_layRiffle_22 ?_
        refine aw_top (n_shr (by omega) i (by omega)) ?_
        refine aw_ic dX5_layRiffle_23 ic_1 ?_
        refine aw_iand dX5_layRiffle_24 ?_
        refine aw_top (show ((nI (m / 2 ^ i)) &&& (nI (1))) = (nI (m / 2 ^ i % 2)) from n_odd (Nat.lt_of_le_of_lt (Nat.div_le_self _ _) (by omega))) ?_
        have htb := tb_div m i
        have hml := Nat.mod_lt (m / 2 ^ i) (show 0 < 2 by decide)
        refine aw_if_neN (tgt := 39) (by omega) dX5_layRiffle_25 (by decide) (fun c2 => ?_) (fun c2 => ?_)
        · skip
          have hb : m.testBit i = true := by rw [htb]; simp; omega
          have hs : ones m (i + 1) = ones m i + 1 := ct_t hb
          refine aw_aload_n dX5_layRiffle_39 rfl ?_
          refine aw_iload dX5_layRiffle_40 rfl ?_
          refine aw_callVQ (As := [.int (nI (n - ones m n + ones m i))]) (rest := []) (c_X3_add G hA0 (by omega)) kX3_add w_394 u_11 rfl rfl rfl rfl (Nat.le_of_ble_eq_true rfl) dX5_layRiffle_42 ⟨Nat.le_of_ble_eq_true rfl, Nat.le_of_ble_eq_true rfl⟩ ⟨Nat.le_of_ble_eq_true rfl, Nat.le_of_ble_eq_true rfl⟩ (fun v_1 h_1 n_1 q_1 z_1 => ?_)
          obtain ⟨rfl, rfl, R_1, o_1⟩ := q_1
          refine aw_iincN (k := 1) (L' := [(4, .int (nI ((n - ones m n + ones m i) + 1))), (0, .ref (r)), (1, .int (nI (m))), (2, .int (nI (n))), (3, .int (nI (i - ones m i))), (5, .int (nI (i)))]) dX5_layRiffle_45 (by decide) rfl (by decide) rfl ?_
          refine aw_iincN (k := 1) (L' := [(5, .int (nI (i + 1))), (4, .int (nI ((n - ones m n + ones m i) + 1))), (0, .ref (r)), (1, .int (nI (m))), (2, .int (nI (n))), (3, .int (nI (i - ones m i)))]) dX5_layRiffle_48 (by decide) rfl (by decide) rfl ?_
          refine aw_goto (tgt := 13) dX5_layRiffle_51 (by decide) ?_
          rw [show i - ones m i = i + 1 - ones m (i + 1) by omega, show n - ones m n + ones m i + 1 = n - ones m n + ones m (i + 1) by omega]
          refine aw_sub (L' := [(0, .ref (r)), (1, .int (nI (m))), (2, .int (nI (n))), (3, .int (nI (i + 1 - ones m (i + 1)))), (4, .int (nI (n - ones m n + ones m (i + 1)))), (5, .int (nI (i + 1)))]) [2, 3, 4, 5, 1, 0] rfl ?_
          exact ih (i + 1) _ h_1 (by omega) (by omega) (by rw [hl1]; simp only [rif, hb, if_true]) R_1 (ho.tr o_1)
        · skip
          have hb : m.testBit i = false := by rw [htb]; simp; omega
          have hs : ones m (i + 1) = ones m i := ct_f hb
          refine aw_aload_n dX5_layRiffle_28 rfl ?_
          refine aw_iload_n dX5_layRiffle_29 rfl ?_
          refine aw_callVQ (As := [.int (nI (i - ones m i))]) (rest := []) (c_X3_add G hA0 (by omega)) kX3_add w_394 u_11 rfl rfl rfl rfl (Nat.le_of_ble_eq_true rfl) dX5_layRiffle_30 ⟨Nat.le_of_ble_eq_true rfl, Nat.le_of_ble_eq_true rfl⟩ ⟨Nat.le_of_ble_eq_true rfl, Nat.le_of_ble_eq_true rfl⟩ (fun v_2 h_2 n_2 q_2 z_2 => ?_)
          obtain ⟨rfl, rfl, R_2, o_2⟩ := q_2
          refine aw_iincN (k := 1) (L' := [(3, .int (nI ((i - ones m i) + 1))), (0, .ref (r)), (1, .int (nI (m))), (2, .int (nI (n))), (4, .int (nI (n - ones m n + ones m i))), (5, .int (nI (i)))]) dX5_layRiffle_33 (by decide) rfl (by decide) rfl ?_
          refine aw_goto (tgt := 48) dX5_layRiffle_36 (by decide) ?_
          refine aw_iincN (k := 1) (L' := [(5, .int (nI (i + 1))), (3, .int (nI ((i - ones m i) + 1))), (0, .ref (r)), (1, .int (nI (m))), (2, .int (nI (n))), (4, .int (nI (n - ones m n + ones m i)))]) dX5_layRiffle_48 (by decide) rfl (by decide) rfl ?_
          refine aw_goto (tgt := 13) dX5_layRiffle_51 (by decide) ?_
          rw [show i - ones m i + 1 = i + 1 - ones m (i + 1) by omega, show n - ones m n + ones m i = n - ones m n + ones m (i + 1) by omega]
          refine aw_sub (L' := [(0, .ref (r)), (1, .int (nI (m))), (2, .int (nI (n))), (3, .int (nI (i + 1 - ones m (i + 1)))), (4, .int (nI (n - ones m n + ones m (i + 1)))), (5, .int (nI (i + 1)))]) [2, 3, 4, 1, 5, 0] rfl ?_
          exact ih (i + 1) _ h_2 (by omega) (by omega) (by rw [hl1]; simp only [rif, hb]; simp) R_2 (ho.tr o_2)
  have e0 : ones m 0 = 0 := rfl
  refine aw_to ?_ (show ([(5, .int (nI (0))), (4, .int (nI (n - (ones m n)))), (3, .int (nI (0))), (0, .ref (r)), (1, .int (nI (m))), (2, .int (nI (n)))] : aL) = [(5, .int (nI (0))), (4, .int (nI (n - ones m n + ones m 0))), (3, .int (nI (0 - ones m 0))), (0, .ref (r)), (1, .int (nI (m))), (2, .int (nI (n)))] from by rw [e0]; rfl) rfl rfl
  refine aw_sub (L' := [(0, .ref (r)), (1, .int (nI (m))), (2, .int (nI (n))), (3, .int (nI (0 - ones m 0))), (4, .int (nI (n - ones m n + ones m 0))), (5, .int (nI (0)))]) [3, 4, 5, 2, 1, 0] rfl ?_
  exact K (n + 1) 0 l h (by omega) (Nat.zero_le _) (by rw [hl0]; rfl) hR aOff.rf
set_option maxHeartbeats 4000000 in
set_option maxRecDepth 20000 in
/-- layPackets -/
theorem c_X5_layPackets (G : aG) {h : aH} {nx r : Nat} {l : List Nat} {m n : Nat} (hR : RowAt h r l) (hl0 : l = []) (hn : 2 ≤ n ∧ n ≤ 16) (hm : m < 2 ^ (n - 1)) : aMet G mX5_layPackets 3 0 0 [.ref (r), .int (nI (m)), .int (nI (n))] h nx (pQ (fun v h1 n1 => v = none ∧ n1 = nx ∧ RowAt h1 r (pck m (n - 1) n) ∧ aOff h h1 r 3)) := by
  have hm2 : m < 2 ^ 16 := Nat.lt_of_lt_of_le hm (Nat.pow_le_pow_right (by decide) (by omega))
  refine aMet_of rfl (Nat.le_of_ble_eq_true rfl) ?_
  show aw G mX5_layPackets [] (aRoom 3 0 0) (aEnd G (pQ (fun v h1 n1 => v = none ∧ n1 = nx ∧ RowAt h1 r (pck m (n - 1) n) ∧ aOff h h1 r 3)) 0 0) 0 0 h nx 0 [(0, .ref (r)), (1, .int (nI (m))), (2, .int (nI (n)))] []
  refine aw_iload_n dX5_layPackets_0 rfl ?_
  refine aw_istore_n (L' := [(3, .int (nI (n))), (0, .ref (r)), (1, .int (nI (m))), (2, .int (nI (n)))]) dX5_layPackets_1 (by decide) rfl ?_
  refine aw_iload_n dX5_layPackets_2 rfl ?_
  refine aw_ic dX5_layPackets_3 ic_2 ?_
  refine aw_isubN (by omega) dX5_layPackets_4 ?_
  refine aw_istore (L' := [(4, .int (nI (n - 2))), (3, .int (nI (n))), (0, .ref (r)), (1, .int (nI (m))), (2, .int (nI (n)))]) dX5_layPackets_5 (by decide) rfl ?_
  have K : ∀ (d : Nat) (j e : Nat) (l1 : List Nat) (h1 : aH), j < d → (j < e ∧ e ≤ n) → (l1 ++ pck m j e = pck m (n - 1) n) → (RowAt h1 r l1) → (aOff h h1 r 3) → aw G mX5_layPackets [] (aRoom 3 0 0) (aEnd G (pQ (fun v h1 n1 => v = none ∧ n1 = nx ∧ RowAt h1 r (pck m (n - 1) n) ∧ aOff h h1 r 3)) 0 0) 0 0 h1 nx 7 [(0, .ref (r)), (1, .int (nI (m))), (2, .int (nI (n))), (3, .int (nI (e))), (4, .int (dn j))] [] := by
    intro d
    induction d with
    | zero => intro j e l1 h1 hMd; exact absurd hMd (Nat.not_lt_zero _)
    | succ d ih =>
      intro j e l1 h1 hMd hj hl1 hA ho
      have hA0 := hA
      obtain ⟨u_1f, u_1g, u_11, u_12, u_13, u_1l, u_1v⟩ := hA
      have hlen := congrArg List.length hl1
      rw [List.length_append, (pck_ok j e (by omega)).1, (pck_ok (n - 1) n (by omega)).1] at hlen
      cases j with
      | zero =>
        refine aw_iload dX5_layPackets_7 rfl ?_
        refine aw_if_lt (tgt := 42) dX5_layPackets_9 (by decide) (fun c1 => ?_) (fun c1 => absurd c1 (fun q => q dn_0))
        refine aw_aload_n dX5_layPackets_42 rfl ?_
        refine aw_ic dX5_layPackets_43 ic_0 ?_
        refine aw_iload_n dX5_layPackets_44 rfl ?_
        refine aw_callVQ (As := [.int (nI (0)), .int (nI (e))]) (rest := []) (c_X3_addSpan G hA0 (Nat.zero_le e) (by omega) (by omega)) kX3_addSpan w_383 u_11 rfl rfl rfl rfl (Nat.le_of_ble_eq_true rfl) dX5_layPackets_45 ⟨Nat.le_of_ble_eq_true rfl, Nat.le_of_ble_eq_true rfl⟩ ⟨Nat.le_of_ble_eq_true rfl, Nat.le_of_ble_eq_true rfl⟩ (fun v_1 h_1 n_1 q_1 z_1 => ?_)
        obtain ⟨rfl, rfl, R_1, o_1⟩ := q_1
        exact aw_return dX5_layPackets_48 rfl ⟨_, rfl, rfl, rfl, by rw [← hl1]; simpa [pck, spn] using R_1, ho.tr o_1⟩ (Nat.le_of_ble_eq_true rfl) (Nat.le_of_ble_eq_true rfl)
      | succ k =>
        refine aw_to ?_ (show ([(0, .ref (r)), (1, .int (nI (m))), (2, .int (nI (n))), (3, .int (nI (e))), (4, .int (dn (k + 1)))] : aL) = [(0, .ref (r)), (1, .int (nI (m))), (2, .int (nI (n))), (3, .int (nI (e))), (4, .int (nI (k)))] from rfl) rfl rfl
        refine aw_iload dX5_layPackets_7 rfl ?_
        refine aw_if_ltN (tgt := 42) (by omega) dX5_layPackets_9 (by decide) ?_
        refine aw_iload_n dX5_layPackets_12 rfl ?_
        refine aw_iload dX5_layPackets_13 rfl ?_
        refine aw_ishr dX5_layPackets_15 ?_
        refine aw_top (n_shr (by omega) k (by omega)) ?_
        refine aw_ic dX5_layPackets_16 ic_1 ?_
        refine aw_iand dX5_layPackets_17 ?_
        refine aw_top (show ((nI (m / 2 ^ k)) &&& (nI (1))) = (nI (m / 2 ^ k % 2)) from n_odd (Nat.lt_of_le_of_lt (Nat.div_le_self _ _) (by omega))) ?_
        have htb := tb_div m k
        have hml := Nat.mod_lt (m / 2 ^ k) (show 0 < 2 by decide)
        refine aw_ic dX5_layPackets_18 ic_1 ?_
        refine aw_icmp_neN (tgt := 36) (by omega) (by omega) dX5_layPackets_19 (by decide) (fun c1 => ?_) (fun c1 => ?_)
        · skip
          have hb : m.testBit k = false := by rw [htb]; simp; omega
          refine aw_iinc (L' := [(4, .int (dn k)), (0, .ref (r)), (1, .int (nI (m))), (2, .int (nI (n))), (3, .int (nI (e)))]) dX5_layPackets_36 rfl (dn_pred k) (by decide) rfl ?_
          refine aw_goto (tgt := 7) dX5_layPackets_39 (by decide) ?_
          refine aw_sub (L' := [(0, .ref (r)), (1, .int (nI (m))), (2, .int (nI (n))), (3, .int (nI (e))), (4, .int (dn k))]) [1, 2, 3, 4, 0] rfl ?_
          exact ih k e l1 h1 (by omega) (by omega) (by rw [← hl1]; simp [pck, hb]) hA0 ho
        · skip
          have hb : m.testBit k = true := by rw [htb]; simp; omega
          refine aw_aload_n dX5_layPackets_22 rfl ?_
          refine aw_iload dX5_layPackets_23 rfl ?_
          refine aw_ic dX5_layPackets_25 ic_1 ?_
          refine aw_iaddN dX5_layPackets_26 ?_
          refine aw_iload_n dX5_layPackets_27 rfl ?_
          refine aw_callVQ (As := [.int (nI (k + 1)), .int (nI (e))]) (rest := []) (c_X3_addSpan G hA0 (a := k + 1) (b := e) (by omega) (by omega) (by omega)) kX3_addSpan w_383 u_11 rfl rfl rfl rfl (Nat.le_of_ble_eq_true rfl) dX5_layPackets_28 ⟨Nat.le_of_ble_eq_true rfl, Nat.le_of_ble_eq_true rfl⟩ ⟨Nat.le_of_ble_eq_true rfl, Nat.le_of_ble_eq_true rfl⟩ (fun v_2 h_2 n_2 q_2 z_2 => ?_)
          obtain ⟨rfl, rfl, R_2, o_2⟩ := q_2
          refine aw_iload dX5_layPackets_31 rfl ?_
          refine aw_ic dX5_layPackets_33 ic_1 ?_
          refine aw_iaddN dX5_layPackets_34 ?_
          refine aw_istore_n (L' := [(3, .int (nI (k + 1))), (0, .ref (r)), (1, .int (nI (m))), (2, .int (nI (n))), (4, .int (nI (k)))]) dX5_layPackets_35 (by decide) rfl ?_
          refine aw_iinc (L' := [(4, .int (dn k)), (3, .int (nI (k + 1))), (0, .ref (r)), (1, .int (nI (m))), (2, .int (nI (n)))]) dX5_layPackets_36 rfl (dn_pred k) (by decide) rfl ?_
          refine aw_goto (tgt := 7) dX5_layPackets_39 (by decide) ?_
          refine aw_sub (L' := [(0, .ref (r)), (1, .int (nI (m))), (2, .int (nI (n))), (3, .int (nI (k + 1))), (4, .int (dn k))]) [2, 3, 4, 1, 0] rfl ?_
          exact ih k (k + 1) _ h_2 (by omega) (by omega) (by rw [← hl1]; simp [pck, hb, spn]) R_2 (ho.tr o_2)
  refine aw_to ?_ (show ([(4, .int (nI (n - 2))), (3, .int (nI (n))), (0, .ref (r)), (1, .int (nI (m))), (2, .int (nI (n)))] : aL) = [(4, .int (dn (n - 1))), (3, .int (nI (n))), (0, .ref (r)), (1, .int (nI (m))), (2, .int (nI (n)))] from by obtain ⟨k, rfl⟩ : ∃ k, n = k + 2 := ⟨n - 2, by omega⟩; rfl) rfl rfl
  refine aw_sub (L' := [(0, .ref (r)), (1, .int (nI (m))), (2, .int (nI (n))), (3, .int (nI (n))), (4, .int (dn (n - 1)))]) [2, 3, 4, 1, 0] rfl ?_
  exact K (n + 1) (n - 1) n l h (by omega) (by omega) (by rw [hl0]; rfl) hR aOff.rf
set_option maxHeartbeats 4000000 in
set_option maxRecDepth 20000 in
/-- lay(row, kind, number, cards) -/
theorem c_X5_lay (G : aG) {h : aH} {nx r : Nat} {l : List Nat} {n : Nat} (x y : Int32) (hR : RowAt h r l) (hn : 2 ≤ n ∧ n ≤ 16) : aMet G mX5_lay 4 0 0 [.ref (r), .int (x), .int (y), .int (nI (n))] h nx (pQ (fun v h1 n1 => n1 = nx ∧ aOff h h1 r 3 ∧ ((isO x.toInt y.toInt n = false ∧ v = some (.int (bI false)) ∧ h1 = h) ∨ (isO x.toInt y.toInt n = true ∧ v = some (.int (bI true)) ∧ RowAt h1 r (layL x.toInt.toNat y.toInt.toNat n))))) := by
  refine aMet_of rfl (Nat.le_of_ble_eq_true rfl) ?_
  show aw G mX5_lay [] (aRoom 4 0 0) (aEnd G (pQ (fun v h1 n1 => n1 = nx ∧ aOff h h1 r 3 ∧ ((isO x.toInt y.toInt n = false ∧ v = some (.int (bI false)) ∧ h1 = h) ∨ (isO x.toInt y.toInt n = true ∧ v = some (.int (bI true)) ∧ RowAt h1 r (layL x.toInt.toNat y.toInt.toNat n))))) 0 0) 0 0 h nx 0 [(0, .ref (r)), (1, .int (x)), (2, .int (y)), (3, .int (nI (n)))] []
  refine aw_iload_n dX5_lay_0 rfl ?_
  refine aw_iload_n dX5_lay_1 rfl ?_
  refine aw_iload_n dX5_lay_2 rfl ?_
  refine aw_callSR (As := [.int (x), .int (y), .int (nI (n))]) (rest := []) (c_X5_isOne G x y hn) kX5_isOne w_372 rfl rfl (Nat.le_of_ble_eq_true rfl) dX5_lay_3 ⟨Nat.le_of_ble_eq_true rfl, Nat.le_of_ble_eq_true rfl⟩ ⟨Nat.le_of_ble_eq_true rfl, Nat.le_of_ble_eq_true rfl⟩ ?_
  refine aw_if_neB (tgt := 11) dX5_lay_6 (by decide) (fun c1 => ?_) (fun c1 => ?_)
  · skip
    have hO := of_decide_eq_true c1
    obtain ⟨k, hk, rfl⟩ := nI_of (x := x) (by rw [Int32.lt_iff_toInt_lt]; have e0 : (0 : Int32).toInt = 0 := (by decide); omega)
    obtain ⟨j, hj, rfl⟩ := nI_of (x := y) (by rw [Int32.lt_iff_toInt_lt]; have e0 : (0 : Int32).toInt = 0 := (by decide); omega)
    have tk : (nI k).toInt = (k : Int) := nI_toInt hk
    have tj : (nI j).toInt = (j : Int) := nI_toInt hj
    rw [tk, tj] at hO
    have hp1 : 1 ≤ 2 ^ n := Nat.one_le_two_pow
    have hp2 : 1 ≤ 2 ^ (n - 1) := Nat.one_le_two_pow
    have hRx := hR
    obtain ⟨u_1f, u_1g, u_11, u_12, u_13, u_1l, u_1v⟩ := hRx
    refine aw_aload_n dX5_lay_11 rfl ?_
    refine aw_callVQ (As := []) (rest := []) (c_X3_clear G hR) kX3_clear w_379 u_11 rfl rfl rfl rfl (Nat.le_of_ble_eq_true rfl) dX5_lay_12 ⟨Nat.le_of_ble_eq_true rfl, Nat.le_of_ble_eq_true rfl⟩ ⟨Nat.le_of_ble_eq_true rfl, Nat.le_of_ble_eq_true rfl⟩ (fun v_1 h_1 n_1 q_1 z_1 => ?_)
    obtain ⟨rfl, rfl, R_1, o_1⟩ := q_1
    have c2 : isO ((nI k).toInt) ((nI j).toInt) n = true := c1
    have hX := R_1
    obtain ⟨u_2f, u_2g, u_21, u_22, u_23, u_2l, u_2v⟩ := hX
    refine aw_iload_n dX5_lay_15 rfl ?_
    have hk9 : k ≤ 9 := by omega
    have fin : ∀ (h9 : aH), RowAt h9 r (layL k j n) → aOff h_1 h9 r 3 → aw G mX5_lay [] (aRoom 4 0 0) (aEnd G (pQ (fun v h1 n1 => n1 = n_1 ∧ aOff h h1 r 3 ∧ ((isO (nI k).toInt (nI j).toInt n = false ∧ v = some (.int (bI false)) ∧ h1 = h) ∨ (isO (nI k).toInt (nI j).toInt n = true ∧ v = some (.int (bI true)) ∧ RowAt h1 r (layL (nI k).toInt.toNat (nI j).toInt.toNat n))))) 0 0) 0 0 h9 n_1 169 [(0, .ref (r)), (1, .int (nI (k))), (2, .int (nI (j))), (3, .int (nI (n)))] [] := by
      intro h9 hR9 ho9
      refine aw_ic dX5_lay_169 ic_1 ?_
      exact aw_zreturn dX5_lay_170 rfl (bI_nar true) ⟨_, rfl, rfl, o_1.tr ho9, Or.inr ⟨c2, rfl, by rw [tk, tj]; exact hR9⟩⟩ (Nat.le_of_ble_eq_true rfl) (Nat.le_of_ble_eq_true rfl)
    have hx := tk
    rcases (show k = 0 ∨ k = 1 ∨ k = 2 ∨ k = 3 ∨ k = 4 ∨ k = 5 ∨ k = 6 ∨ k = 7 ∨ k = 8 ∨ k = 9 by omega) with rfl | rfl | rfl | rfl | rfl | rfl | rfl | rfl | rfl | rfl
    · skip
      refine aw_tableIn (off := 52) (tgt := 68) dX5_lay_16 (by decide) (by decide) (by decide) (by decide) ?_
      refine aw_aload_n dX5_lay_68 rfl ?_
      refine aw_iload_n dX5_lay_69 rfl ?_
      refine aw_iload_n dX5_lay_70 rfl ?_
      refine aw_callVQ (As := [.int (nI (j)), .int (nI (n))]) (rest := []) (c_X3_addSpan G R_1 (a := j) (b := n) (by omega) (by simp; omega) hn.2) kX3_addSpan w_383 u_21 rfl rfl rfl rfl (Nat.le_of_ble_eq_true rfl) dX5_lay_71 ⟨Nat.le_of_ble_eq_true rfl, Nat.le_of_ble_eq_true rfl⟩ ⟨Nat.le_of_ble_eq_true rfl, Nat.le_of_ble_eq_true rfl⟩ (fun v_2 h_2 n_2 q_2 z_2 => ?_)
      obtain ⟨rfl, rfl, R_2, o_2⟩ := q_2
      have hY := R_2
      obtain ⟨u_3f, u_3g, u_31, u_32, u_33, u_3l, u_3v⟩ := hY
      refine aw_aload_n dX5_lay_74 rfl ?_
      refine aw_ic dX5_lay_75 ic_0 ?_
      refine aw_iload_n dX5_lay_76 rfl ?_
      refine aw_callVQ (As := [.int (nI (0)), .int (nI (j))]) (rest := []) (c_X3_addSpan G R_2 (a := 0) (b := j) (by omega) (by simp; omega) (by omega)) kX3_addSpan w_383 u_31 rfl rfl rfl rfl (Nat.le_of_ble_eq_true rfl) dX5_lay_77 ⟨Nat.le_of_ble_eq_true rfl, Nat.le_of_ble_eq_true rfl⟩ ⟨Nat.le_of_ble_eq_true rfl, Nat.le_of_ble_eq_true rfl⟩ (fun v_3 h_3 n_3 q_3 z_3 => ?_)
      obtain ⟨rfl, rfl, R_3, o_3⟩ := q_3
      refine aw_goto (tgt := 169) dX5_lay_80 (by decide) ?_
      exact fin _ (by simpa [layL, spn] using R_3) (o_2.tr o_3)
    · skip
      refine aw_tableIn (off := 67) (tgt := 83) dX5_lay_16 (by decide) (by decide) (by decide) (by decide) ?_
      refine aw_aload_n dX5_lay_83 rfl ?_
      refine aw_ic dX5_lay_84 ic_0 ?_
      refine aw_iload_n dX5_lay_85 rfl ?_
      refine aw_ic dX5_lay_86 ic_2 ?_
      refine aw_idivN (by omega) (by omega) (by omega) dX5_lay_87 ?_
      refine aw_iload_n dX5_lay_88 rfl ?_
      refine aw_ic dX5_lay_89 ic_2 ?_
      refine aw_idivN (by omega) (by omega) (by omega) dX5_lay_90 ?_
      refine aw_callSQ (As := [.ref (r), .int (nI (0)), .int (nI (n / 2)), .int (nI (n / 2))]) (rest := []) (c_X5_layHalves G R_1 (a := 0) (b := n / 2) (k := n / 2) (by simp; omega)) kX5_layHalves w_391 rfl rfl (Nat.le_of_ble_eq_true rfl) dX5_lay_91 ⟨Nat.le_of_ble_eq_true rfl, Nat.le_of_ble_eq_true rfl⟩ ⟨Nat.le_of_ble_eq_true rfl, Nat.le_of_ble_eq_true rfl⟩ (fun v_4 h_4 n_4 q_4 z_4 => ?_)
      obtain ⟨rfl, rfl, R_4, o_4⟩ := q_4
      refine aw_goto (tgt := 169) dX5_lay_94 (by decide) ?_
      exact fin _ (by simpa [layL] using R_4) o_4
    · skip
      refine aw_tableIn (off := 81) (tgt := 97) dX5_lay_16 (by decide) (by decide) (by decide) (by decide) ?_
      refine aw_aload_n dX5_lay_97 rfl ?_
      refine aw_iload_n dX5_lay_98 rfl ?_
      refine aw_ic dX5_lay_99 ic_2 ?_
      refine aw_idivN (by omega) (by omega) (by omega) dX5_lay_100 ?_
      refine aw_ic dX5_lay_101 ic_0 ?_
      refine aw_iload_n dX5_lay_102 rfl ?_
      refine aw_ic dX5_lay_103 ic_2 ?_
      refine aw_idivN (by omega) (by omega) (by omega) dX5_lay_104 ?_
      refine aw_callSQ (As := [.ref (r), .int (nI (n / 2)), .int (nI (0)), .int (nI (n / 2))]) (rest := []) (c_X5_layHalves G R_1 (a := n / 2) (b := 0) (k := n / 2) (by simp; omega)) kX5_layHalves w_391 rfl rfl (Nat.le_of_ble_eq_true rfl) dX5_lay_105 ⟨Nat.le_of_ble_eq_true rfl, Nat.le_of_ble_eq_true rfl⟩ ⟨Nat.le_of_ble_eq_true rfl, Nat.le_of_ble_eq_true rfl⟩ (fun v_5 h_5 n_5 q_5 z_5 => ?_)
      obtain ⟨rfl, rfl, R_5, o_5⟩ := q_5
      refine aw_goto (tgt := 169) dX5_lay_108 (by decide) ?_
      exact fin _ (by simpa [layL] using R_5) o_5
    · skip
      refine aw_tableIn (off := 95) (tgt := 111) dX5_lay_16 (by decide) (by decide) (by decide) (by decide) ?_
      refine aw_aload_n dX5_lay_111 rfl ?_
      refine aw_iload_n dX5_lay_112 rfl ?_
      refine aw_callSQ (As := [.ref (r), .int (nI (n))]) (rest := []) (c_X5_layMonge G R_1 rfl hn) kX5_layMonge w_398 rfl rfl (Nat.le_of_ble_eq_true rfl) dX5_lay_113 ⟨Nat.le_of_ble_eq_true rfl, Nat.le_of_ble_eq_true rfl⟩ ⟨Nat.le_of_ble_eq_true rfl, Nat.le_of_ble_eq_true rfl⟩ (fun v_6 h_6 n_6 q_6 z_6 => ?_)
      obtain ⟨rfl, rfl, R_6, o_6⟩ := q_6
      refine aw_goto (tgt := 169) dX5_lay_116 (by decide) ?_
      exact fin _ (by simpa [layL] using R_6) o_6
    · skip
      refine aw_tableIn (off := 103) (tgt := 119) dX5_lay_16 (by decide) (by decide) (by decide) (by decide) ?_
      refine aw_aload_n dX5_lay_119 rfl ?_
      refine aw_iload_n dX5_lay_120 rfl ?_
      refine aw_callSQ (As := [.ref (r), .int (nI (n))]) (rest := []) (c_X5_layMilk G R_1 rfl hn) kX5_layMilk w_401 rfl rfl (Nat.le_of_ble_eq_true rfl) dX5_lay_121 ⟨Nat.le_of_ble_eq_true rfl, Nat.le_of_ble_eq_true rfl⟩ ⟨Nat.le_of_ble_eq_true rfl, Nat.le_of_ble_eq_true rfl⟩ (fun v_7 h_7 n_7 q_7 z_7 => ?_)
      obtain ⟨rfl, rfl, R_7, o_7⟩ := q_7
      refine aw_goto (tgt := 169) dX5_lay_124 (by decide) ?_
      exact fin _ (by simpa [layL] using R_7) o_7
    · skip
      refine aw_tableIn (off := 111) (tgt := 127) dX5_lay_16 (by decide) (by decide) (by decide) (by decide) ?_
      refine aw_aload_n dX5_lay_127 rfl ?_
      refine aw_iload_n dX5_lay_128 rfl ?_
      refine aw_iload_n dX5_lay_129 rfl ?_
      refine aw_callSQ (As := [.ref (r), .int (nI (j)), .int (nI (n))]) (rest := []) (c_X5_layDeal G R_1 rfl hn (by omega)) kX5_layDeal w_404 rfl rfl (Nat.le_of_ble_eq_true rfl) dX5_lay_130 ⟨Nat.le_of_ble_eq_true rfl, Nat.le_of_ble_eq_true rfl⟩ ⟨Nat.le_of_ble_eq_true rfl, Nat.le_of_ble_eq_true rfl⟩ (fun v_8 h_8 n_8 q_8 z_8 => ?_)
      obtain ⟨rfl, rfl, R_8, o_8⟩ := q_8
      refine aw_goto (tgt := 169) dX5_lay_133 (by decide) ?_
      exact fin _ (by simpa [layL] using R_8) o_8
    · skip
      refine aw_tableIn (off := 120) (tgt := 136) dX5_lay_16 (by decide) (by decide) (by decide) (by decide) ?_
      refine aw_aload_n dX5_lay_136 rfl ?_
      refine aw_iload_n dX5_lay_137 rfl ?_
      refine aw_iload_n dX5_lay_138 rfl ?_
      refine aw_callSQ (As := [.ref (r), .int (nI (j)), .int (nI (n))]) (rest := []) (c_X5_layBack G R_1 rfl hn (by omega)) kX5_layBack w_407 rfl rfl (Nat.le_of_ble_eq_true rfl) dX5_lay_139 ⟨Nat.le_of_ble_eq_true rfl, Nat.le_of_ble_eq_true rfl⟩ ⟨Nat.le_of_ble_eq_true rfl, Nat.le_of_ble_eq_true rfl⟩ (fun v_9 h_9 n_9 q_9 z_9 => ?_)
      obtain ⟨rfl, rfl, R_9, o_9⟩ := q_9
      refine aw_goto (tgt := 169) dX5_lay_142 (by decide) ?_
      exact fin _ (by simpa [layL] using R_9) o_9
    · skip
      refine aw_tableIn (off := 129) (tgt := 145) dX5_lay_16 (by decide) (by decide) (by decide) (by decide) ?_
      refine aw_aload_n dX5_lay_145 rfl ?_
      refine aw_iload_n dX5_lay_146 rfl ?_
      refine aw_iload_n dX5_lay_147 rfl ?_
      refine aw_callSQ (As := [.ref (r), .int (nI (j)), .int (nI (n))]) (rest := []) (c_X5_layOver G R_1 rfl hn (by omega)) kX5_layOver w_410 rfl rfl (Nat.le_of_ble_eq_true rfl) dX5_lay_148 ⟨Nat.le_of_ble_eq_true rfl, Nat.le_of_ble_eq_true rfl⟩ ⟨Nat.le_of_ble_eq_true rfl, Nat.le_of_ble_eq_true rfl⟩ (fun v_10 h_10 n_10 q_10 z_10 => ?_)
      obtain ⟨rfl, rfl, R_10, o_10⟩ := q_10
      refine aw_goto (tgt := 169) dX5_lay_151 (by decide) ?_
      exact fin _ (by simpa [layL] using R_10) o_10
    · skip
      refine aw_tableIn (off := 138) (tgt := 154) dX5_lay_16 (by decide) (by decide) (by decide) (by decide) ?_
      refine aw_aload_n dX5_lay_154 rfl ?_
      refine aw_iload_n dX5_lay_155 rfl ?_
      refine aw_iload_n dX5_lay_156 rfl ?_
      refine aw_callSQ (As := [.ref (r), .int (nI (j)), .int (nI (n))]) (rest := []) (c_X5_layRiffle G R_1 rfl hn (by omega)) kX5_layRiffle w_417 rfl rfl (Nat.le_of_ble_eq_true rfl) dX5_lay_157 ⟨Nat.le_of_ble_eq_true rfl, Nat.le_of_ble_eq_true rfl⟩ ⟨Nat.le_of_ble_eq_true rfl, Nat.le_of_ble_eq_true rfl⟩ (fun v_11 h_11 n_11 q_11 z_11 => ?_)
      obtain ⟨rfl, rfl, R_11, o_11⟩ := q_11
      refine aw_goto (tgt := 169) dX5_lay_160 (by decide) ?_
      exact fin _ (by simpa [layL] using R_11) o_11
    · skip
      refine aw_tableOut (tgt := 163) dX5_lay_16 (by decide) (by decide) ?_
      refine aw_aload_n dX5_lay_163 rfl ?_
      refine aw_iload_n dX5_lay_164 rfl ?_
      refine aw_iload_n dX5_lay_165 rfl ?_
      refine aw_callSQ (As := [.ref (r), .int (nI (j)), .int (nI (n))]) (rest := []) (c_X5_layPackets G R_1 rfl hn (by omega)) kX5_layPackets w_421 rfl rfl (Nat.le_of_ble_eq_true rfl) dX5_lay_166 ⟨Nat.le_of_ble_eq_true rfl, Nat.le_of_ble_eq_true rfl⟩ ⟨Nat.le_of_ble_eq_true rfl, Nat.le_of_ble_eq_true rfl⟩ (fun v_12 h_12 n_12 q_12 z_12 => ?_)
      obtain ⟨rfl, rfl, R_12, o_12⟩ := q_12
      exact fin _ (by simpa [layL] using R_12) o_12
  · skip
    refine aw_ic dX5_lay_9 ic_0 ?_
    exact aw_zreturn dX5_lay_10 rfl (bI_nar false) ⟨_, rfl, rfl, aOff.rf, Or.inl ⟨c1, rfl, rfl⟩⟩ (Nat.le_of_ble_eq_true rfl) (Nat.le_of_ble_eq_true rfl)
