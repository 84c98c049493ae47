set_option maxHeartbeats 4000000 in
set_option maxRecDepth 20000 in
/-- ofSequenceNow(x, u) -/
theorem c_X9_ofSequenceNow (G : aG) {h : aH} {nx m c : Nat} {own : Nat → Nat} {σ : aSg} {th : Int32} (hM : MAt G own h nx m σ th) (hσ : sgOk c σ) (hc9 : c ≤ 512) {x : Int32} (hx : inS σ x = true) {u : Nat} (hu : u ≤ (sqI σ x).length) : aMet G mX9_ofSequenceNow 5 0 0 [.ref (m), .int (x), .int (nI (u))] h nx (pI (nI (ofSq (sqI σ x) u)) h nx) := by
  obtain ⟨jq, sq, ss, ts, st, hj4, hjl, hxj, hsI, hSL, hjss, hss4, hss, hLs, hts, hST, hst⟩ := hM.seq hσ hx
  rw [hsI] at hu ⊢
  have hst1 := hst.1
  have hst2 := hst.2
  refine aMet_of rfl (Nat.le_of_ble_eq_true rfl) ?_
  show aw G mX9_ofSequenceNow [] (aRoom 5 0 0) (aEnd G (pI (nI (ofSq st u)) h nx) 0 0) 0 0 h nx 0 [(0, .ref (m)), (1, .int (x)), (2, .int (nI (u)))] []
  have w_1M := hM
  obtain ⟨w_1o, w_1m, ⟨w_1s, w_1f⟩, -⟩ := w_1M
  refine aw_aload_n dX9_ofSequenceNow_0 rfl ?_
  refine aw_get 2 w_1f rfl rfl (by decide) w_732 rfl dX9_ofSequenceNow_1 ?_
  refine aw_iload_n dX9_ofSequenceNow_4 rfl ?_
  have hL_1 := hSL
  obtain ⟨u_11, u_1m, u_1e, u_12, u_13, u_14⟩ := hL_1
  refine aw_top (show (x) = (nI (jq)) from hxj) ?_
  refine aw_callVR (As := [.int (nI (jq))]) (rest := []) (c_Lget G hSL hjss (by omega)) kJx4a65c_get_915e3 w_854 u_12 rfl rfl rfl rfl (Nat.le_of_ble_eq_true rfl) dX9_ofSequenceNow_5 ⟨Nat.le_of_ble_eq_true rfl, Nat.le_of_ble_eq_true rfl⟩ ⟨Nat.le_of_ble_eq_true rfl, Nat.le_of_ble_eq_true rfl⟩ ?_
  rw [hss]
  have hL_2 := hLs
  obtain ⟨u_21, u_2m, u_2e, u_22, u_23, u_24⟩ := hL_2
  refine aw_castO u_22 rfl rfl w_701 dX9_ofSequenceNow_8 ?_
  refine aw_astore_n (L' := [(3, .ref (sq)), (0, .ref (m)), (1, .int (x)), (2, .int (nI (u)))]) dX9_ofSequenceNow_11 (by decide) rfl ?_
  refine aw_iload_n dX9_ofSequenceNow_12 rfl ?_
  refine aw_if_neN (tgt := 23) (by omega) dX9_ofSequenceNow_13 (by decide) (fun c1 => ?_) (fun c1 => ?_)
  · skip
    have hkk := hst2 (u - 1) (by omega)
    refine aw_ldc dX9_ofSequenceNow_23 w_1123 ?_
    refine aw_top (show (100000 : Int32) = nI 100000 by decide) ?_
    refine aw_aload_n dX9_ofSequenceNow_25 rfl ?_
    refine aw_iload_n dX9_ofSequenceNow_26 rfl ?_
    refine aw_ic dX9_ofSequenceNow_27 ic_1 ?_
    refine aw_isubN (by omega) dX9_ofSequenceNow_28 ?_
    refine aw_callVR (As := [.int (nI (u - 1))]) (rest := [.int (nI (100000))]) (c_Lget G hLs (i := u - 1) (by omega) (by omega)) kJx4a65c_get_915e3 w_854 u_22 rfl rfl rfl rfl (Nat.le_of_ble_eq_true rfl) dX9_ofSequenceNow_29 ⟨Nat.le_of_ble_eq_true rfl, Nat.le_of_ble_eq_true rfl⟩ ⟨Nat.le_of_ble_eq_true rfl, Nat.le_of_ble_eq_true rfl⟩ ?_
    obtain ⟨y_1f, y_11, y_12, y_13⟩ := (hST (u - 1) (by omega)).2
    refine aw_castI y_11 w_1014 dX9_ofSequenceNow_32 ?_
    refine aw_ic dX9_ofSequenceNow_35 ic_0 ?_
    refine aw_iaload y_11 (by omega) (by omega) dX9_ofSequenceNow_36 ?_
    refine aw_top (show (y_1f 0) = (nI ((st.getD (u - 1) (0, 0)).1)) from y_12) ?_
    refine aw_imulN dX9_ofSequenceNow_37 ?_
    refine aw_aload_n dX9_ofSequenceNow_38 rfl ?_
    refine aw_iload_n dX9_ofSequenceNow_39 rfl ?_
    refine aw_ic dX9_ofSequenceNow_40 ic_1 ?_
    refine aw_isubN (by omega) dX9_ofSequenceNow_41 ?_
    refine aw_callVR (As := [.int (nI (u - 1))]) (rest := [.int (nI (100000 * ((st.getD (u - 1) (0, 0)).1)))]) (c_Lget G hLs (i := u - 1) (by omega) (by omega)) kJx4a65c_get_915e3 w_854 u_22 rfl rfl rfl rfl (Nat.le_of_ble_eq_true rfl) dX9_ofSequenceNow_42 ⟨Nat.le_of_ble_eq_true rfl, Nat.le_of_ble_eq_true rfl⟩ ⟨Nat.le_of_ble_eq_true rfl, Nat.le_of_ble_eq_true rfl⟩ ?_
    obtain ⟨y_2f, y_21, y_22, y_23⟩ := (hST (u - 1) (by omega)).2
    refine aw_castI y_21 w_1014 dX9_ofSequenceNow_45 ?_
    refine aw_ic dX9_ofSequenceNow_48 ic_1 ?_
    refine aw_iaload y_21 (by omega) (by omega) dX9_ofSequenceNow_49 ?_
    refine aw_top (show (y_2f 1) = (nI ((st.getD (u - 1) (0, 0)).2)) from y_23) ?_
    refine aw_ldc dX9_ofSequenceNow_50 w_1123 ?_
    refine aw_top (show (100000 : Int32) = nI 100000 by decide) ?_
    refine aw_iremN (by omega) (by omega) (by omega) dX9_ofSequenceNow_52 ?_
    refine aw_iaddN dX9_ofSequenceNow_53 ?_
    exact aw_ireturn dX9_ofSequenceNow_54 rfl ⟨r_n (by unfold ofSq; rw [if_neg (by omega), Nat.mul_comm]), rfl, rfl⟩ (Nat.le_of_ble_eq_true rfl) (Nat.le_of_ble_eq_true rfl)
  · skip
    refine aw_aload_n dX9_ofSequenceNow_16 rfl ?_
    refine aw_callVR (As := []) (rest := []) (c_Lsize G hLs) kJx4a65c_size_8abf5 w_761 u_22 rfl rfl rfl rfl (Nat.le_of_ble_eq_true rfl) dX9_ofSequenceNow_17 ⟨Nat.le_of_ble_eq_true rfl, Nat.le_of_ble_eq_true rfl⟩ ⟨Nat.le_of_ble_eq_true rfl, Nat.le_of_ble_eq_true rfl⟩ ?_
    refine aw_goto (tgt := 54) dX9_ofSequenceNow_20 (by decide) ?_
    exact aw_ireturn dX9_ofSequenceNow_54 rfl ⟨r_n (by unfold ofSq; rw [if_pos c1, hts]), rfl, rfl⟩ (Nat.le_of_ble_eq_true rfl) (Nat.le_of_ble_eq_true rfl)
set_option maxHeartbeats 4000000 in
set_option maxRecDepth 20000 in
/-- ofSequence -/
theorem m_X9_ofSequence (G : aG) {h : aH} {nx m c : Nat} {own : Nat → Nat} {σ : aSg} {th : Int32} (hM : MAt G own h nx m σ th) (hσ : sgOk c σ) (hc9 : c ≤ 512) (x w : Int32) : aMet G mX9_ofSequence 7 0 0 [.ref (m), .int (x), .int (w)] h nx (mPo G own h nx m cdA (.int (nI 0)) (sOfSeq σ x w)) := by
  have h4 := hσ.1
  have h5 := hσ.2.1
  have hmn := own_lt hM.1 (b := m) (by rw [hM.2.1]; decide)
  refine aMet_of rfl (Nat.le_of_ble_eq_true rfl) ?_
  show aw G mX9_ofSequence [] (aRoom 7 0 0) (aEnd G (mPo G own h nx m cdA (.int (nI 0)) (sOfSeq σ x w)) 0 0) 0 0 h nx 0 [(0, .ref (m)), (1, .int (x)), (2, .int (w))] []
  have w_1M := hM
  obtain ⟨w_1o, w_1m, ⟨w_1s, w_1f⟩, -⟩ := w_1M
  refine aw_aload_n dX9_ofSequence_0 rfl ?_
  refine aw_ic dX9_ofSequence_1 ic_0 ?_
  refine aw_putV (v := .int (nI (0))) (ty := .int) (fs' := [.int (nI (0)), .ref (m + 1), .ref (m + 2), .int (nI (σ.2.2)), .long (w_1s)]) 0 w_1f rfl rfl (by decide) (by decide +kernel) rfl rfl rfl (Nat.le_of_ble_eq_true rfl) rfl w_730 dX9_ofSequence_2 (fun h_1 f_1 o_1 => ?_)
  refine aw_aload_n dX9_ofSequence_5 rfl ?_
  refine aw_iload_n dX9_ofSequence_6 rfl ?_
  have hM1 := hM.th hσ.1 hσ.2.1 (Nat.le_refl _) f_1 (fun q hq hqm => (o_1 q (by omega)))
  refine aw_callVR (As := [.int (x)]) (rest := []) (c_X9_isSequence G hM1 hσ hc9 x) kX9_isSequence w_956 f_1 rfl rfl rfl rfl (Nat.le_of_ble_eq_true rfl) dX9_ofSequence_7 ⟨Nat.le_of_ble_eq_true rfl, Nat.le_of_ble_eq_true rfl⟩ ⟨Nat.le_of_ble_eq_true rfl, Nat.le_of_ble_eq_true rfl⟩ ?_
  refine aw_if_neB (tgt := 19) dX9_ofSequence_10 (by decide) (fun hx => ?_) (fun hx => ?_)
  · skip
    obtain ⟨jq, sq, ss, ts, st, hj4, hjl, hxj, hsI, hSL, hjss, hss4, hss, hLs, hts, hST, hst⟩ := hM1.seq hσ hx
    have hst1 := hst.1
    refine aw_iload_n dX9_ofSequence_19 rfl ?_
    refine aw_ic dX9_ofSequence_20 ic_0 ?_
    refine aw_aload_n dX9_ofSequence_21 rfl ?_
    refine aw_get 2 f_1 rfl rfl (by decide) w_732 rfl dX9_ofSequence_22 ?_
    refine aw_iload_n dX9_ofSequence_25 rfl ?_
    have hL_1 := hSL
    obtain ⟨u_11, u_1m, u_1e, u_12, u_13, u_14⟩ := hL_1
    refine aw_top (show (x) = (nI (jq)) from hxj) ?_
    refine aw_callVR (As := [.int (nI (jq))]) (rest := [.int (nI (0)), .int (w)]) (c_Lget G hSL hjss (by omega)) kJx4a65c_get_915e3 w_854 u_12 rfl rfl rfl rfl (Nat.le_of_ble_eq_true rfl) dX9_ofSequence_26 ⟨Nat.le_of_ble_eq_true rfl, Nat.le_of_ble_eq_true rfl⟩ ⟨Nat.le_of_ble_eq_true rfl, Nat.le_of_ble_eq_true rfl⟩ ?_
    rw [hss]
    have hL_2 := hLs
    obtain ⟨u_21, u_2m, u_2e, u_22, u_23, u_24⟩ := hL_2
    refine aw_castO u_22 rfl rfl w_701 dX9_ofSequence_29 ?_
    refine aw_callVR (As := []) (rest := [.int (nI (0)), .int (w)]) (c_Lsize G hLs) kJx4a65c_size_8abf5 w_761 u_22 rfl rfl rfl rfl (Nat.le_of_ble_eq_true rfl) dX9_ofSequence_32 ⟨Nat.le_of_ble_eq_true rfl, Nat.le_of_ble_eq_true rfl⟩ ⟨Nat.le_of_ble_eq_true rfl, Nat.le_of_ble_eq_true rfl⟩ ?_
    rw [hts]
    refine aw_callSR (As := [.int (w), .int (nI (0)), .int (nI (st.length))]) (rest := []) (c_X9_is G w (nI 0) (nI st.length)) kX9_is w_754 rfl rfl (Nat.le_of_ble_eq_true rfl) dX9_ofSequence_35 ⟨Nat.le_of_ble_eq_true rfl, Nat.le_of_ble_eq_true rfl⟩ ⟨Nat.le_of_ble_eq_true rfl, Nat.le_of_ble_eq_true rfl⟩ ?_
    have hz : decide ((nI 0).toInt ≤ w.toInt ∧ w.toInt ≤ (nI st.length).toInt) = wIn w 0 (sqI σ x).length := by unfold wIn; rw [show (nI 0).toInt = 0 by decide, nI_toInt (by omega), hsI]
    rw [hz]
    refine aw_if_eqB (tgt := 50) dX9_ofSequence_38 (by decide) (fun hw => ?_) (fun hw => ?_)
    · skip
      refine aw_aload_n dX9_ofSequence_50 rfl ?_
      refine aw_ic dX9_ofSequence_51 ic_2 ?_
      refine aw_callVQ (As := [.int (nI (2))]) (rest := []) (c_X9_refuse G f_1) kX9_refuse w_757 f_1 rfl rfl rfl rfl (Nat.le_of_ble_eq_true rfl) dX9_ofSequence_52 ⟨Nat.le_of_ble_eq_true rfl, Nat.le_of_ble_eq_true rfl⟩ ⟨Nat.le_of_ble_eq_true rfl, Nat.le_of_ble_eq_true rfl⟩ (fun v_1 h_2 n_1 q_1 z_1 => ?_)
      obtain ⟨rfl, rfl, qm, qo⟩ := q_1
      have hs : sOfSeq σ x w = (.inr xIAE, σ) := by unfold sOfSeq; rw [if_pos hx, hw]; rfl
      exact aw_ireturn dX9_ofSequence_55 rfl (mAsk hσ.1 hσ.2.1 hM (by omega) qm (fun q hq hqm => ((qo q (by omega)).trans (o_1 q (by omega)))) hs (mR cdA_iae)) (Nat.le_of_ble_eq_true rfl) (Nat.le_of_ble_eq_true rfl)
    · skip
      obtain ⟨u, -, hu, hwu⟩ := wIn_nat (a := 0) (b := (sqI σ x).length) hw (by rw [hsI]; omega)
      refine aw_aload_n dX9_ofSequence_41 rfl ?_
      refine aw_iload_n dX9_ofSequence_42 rfl ?_
      refine aw_iload_n dX9_ofSequence_43 rfl ?_
      refine aw_top (show (w) = (nI (u)) from hwu) ?_
      refine aw_callVR (As := [.int (x), .int (nI (u))]) (rest := []) (c_X9_ofSequenceNow G hM1 hσ hc9 hx hu) kX9_ofSequenceNow w_1119 f_1 rfl rfl rfl rfl (Nat.le_of_ble_eq_true rfl) dX9_ofSequence_44 ⟨Nat.le_of_ble_eq_true rfl, Nat.le_of_ble_eq_true rfl⟩ ⟨Nat.le_of_ble_eq_true rfl, Nat.le_of_ble_eq_true rfl⟩ ?_
      refine aw_goto (tgt := 55) dX9_ofSequence_47 (by decide) ?_
      have hs : sOfSeq σ x w = (.inl (some (.int (nI (ofSq (sqI σ x) u)))), σ) := by unfold sOfSeq; rw [if_pos hx, if_pos hw, hwu, nI_nat (by rw [hsI] at hu; omega)]
      exact aw_ireturn dX9_ofSequence_55 rfl (mAsk hσ.1 hσ.2.1 hM (by omega) f_1 (fun q hq hqm => (o_1 q (by omega))) hs rfl) (Nat.le_of_ble_eq_true rfl) (Nat.le_of_ble_eq_true rfl)
  · skip
    refine aw_aload_n dX9_ofSequence_13 rfl ?_
    refine aw_ic dX9_ofSequence_14 ic_1 ?_
    refine aw_callVQ (As := [.int (nI (1))]) (rest := []) (c_X9_refuse G f_1) kX9_refuse w_757 f_1 rfl rfl rfl rfl (Nat.le_of_ble_eq_true rfl) dX9_ofSequence_15 ⟨Nat.le_of_ble_eq_true rfl, Nat.le_of_ble_eq_true rfl⟩ ⟨Nat.le_of_ble_eq_true rfl, Nat.le_of_ble_eq_true rfl⟩ (fun v_2 h_3 n_2 q_2 z_2 => ?_)
    obtain ⟨rfl, rfl, qm, qo⟩ := q_2
    have hs : sOfSeq σ x w = (.inr xIOB, σ) := by unfold sOfSeq; rw [hx]; rfl
    exact aw_ireturn dX9_ofSequence_18 rfl (mAsk hσ.1 hσ.2.1 hM (by omega) qm (fun q hq hqm => ((qo q (by omega)).trans (o_1 q (by omega)))) hs (mR cdA_iob)) (Nat.le_of_ble_eq_true rfl) (Nat.le_of_ble_eq_true rfl)
set_option maxHeartbeats 4000000 in
set_option maxRecDepth 20000 in
/-- manyNow(u) -/
theorem c_X9_manyNow (G : aG) {h : aH} {nx m c : Nat} {own : Nat → Nat} {σ : aSg} {th : Int32} (hM : MAt G own h nx m σ th) (hσ : sgOk c σ) (hc9 : c ≤ 512) {u : Nat} (hu : u ≤ 5) : aMet G mX9_manyNow 4 2 10 [.ref (m), .int (nI (u))] h nx (pN (.int (nI (manyS σ u))) h nx) := by
  have h4 := hσ.1
  have h5 := hσ.2.1
  have hmn := own_lt hM.1 (b := m) (by rw [hM.2.1]; decide)
  obtain ⟨ds, hDL, hdn, hm1, hDD⟩ := hM.all hσ hc9
  obtain ⟨ss, hSL, hsn, -⟩ := hM.2.2.2.2
  have hO := hM.1
  have om1 := hM.2.1
  have hm2 := own_lt hO (b := m + 2) (by rw [hSL.1]; decide)
  refine aMet_of rfl (Nat.le_of_ble_eq_true rfl) ?_
  show aw G mX9_manyNow [] (aRoom 4 2 10) (aEnd G (pN (.int (nI (manyS σ u))) h nx) 2 10) 0 0 h nx 0 [(0, .ref (m)), (1, .int (nI (u)))] []
  have w_1M := hM
  obtain ⟨w_1o, w_1m, ⟨w_1s, w_1f⟩, -⟩ := w_1M
  refine aw_ic dX9_manyNow_0 ic_0 ?_
  refine aw_istore_n (L' := [(2, .int (nI (0))), (0, .ref (m)), (1, .int (nI (u)))]) dX9_manyNow_1 (by decide) rfl ?_
  refine aw_ic dX9_manyNow_2 ic_0 ?_
  refine aw_istore_n (L' := [(3, .int (nI (0))), (2, .int (nI (0))), (0, .ref (m)), (1, .int (nI (u)))]) dX9_manyNow_3 (by decide) rfl ?_
  refine aw_ic dX9_manyNow_4 ic_0 ?_
  refine aw_istore (L' := [(4, .int (nI (0))), (3, .int (nI (0))), (2, .int (nI (0))), (0, .ref (m)), (1, .int (nI (u)))]) dX9_manyNow_5 (by decide) rfl ?_
  refine aw_aload_n dX9_manyNow_7 rfl ?_
  refine aw_get 1 w_1f rfl rfl (by decide) w_731 rfl dX9_manyNow_8 ?_
  have hDL0 := hDL
  obtain ⟨u_11, u_1m, u_1e, u_12, u_13, u_14⟩ := hDL0
  refine aw_callVQ (As := []) (rest := []) (c_Liter G hDL hm1) kJx4a65c_iterator_32c93 w_968 u_12 rfl rfl rfl rfl (Nat.le_of_ble_eq_true rfl) dX9_manyNow_11 ⟨Nat.le_of_ble_eq_true rfl, Nat.le_of_ble_eq_true rfl⟩ ⟨Nat.le_of_ble_eq_true rfl, Nat.le_of_ble_eq_true rfl⟩ (fun v_1 h_1 n_1 q_1 z_1 => ?_)
  obtain ⟨rfl, rfl, hI, oI⟩ := q_1
  refine aw_astore (L' := [(5, .ref (nx)), (4, .int (nI (0))), (3, .int (nI (0))), (2, .int (nI (0))), (0, .ref (m)), (1, .int (nI (u)))]) dX9_manyNow_14 (by decide) rfl ?_
  have K : ∀ (d : Nat) (i p q r : Nat) (h1 : aH), σ.1.length - i < d → (i ≤ σ.1.length) → (p = sumD (fun d => d.2.2) σ.1 i) → (q = sumD (fun d => d.1.length) σ.1 i) → (r = sumD (fun d => ups d.1 d.1.length) σ.1 i) → (ItAt h1 nx (m + 1) i) → (∀ b, b < nx → h1 b = h b) → aw G mX9_manyNow [] (aRoom 4 2 10) (aEnd G (pN (.int (nI (manyS σ u))) h nx) 2 10) 1 4 h1 (nx + 1) 16 [(0, .ref (m)), (1, .int (nI (u))), (2, .int (nI (p))), (3, .int (nI (q))), (4, .int (nI (r))), (5, .ref (nx))] [] := by
    intro d
    induction d with
    | zero => intro i p q r h1 hMd; exact absurd hMd (Nat.not_lt_zero _)
    | succ d ih =>
      intro i p q r h1 hMd hi hp hq hr hI ho
      have hDk := hDL.fr hO (by decide) ho
      refine aw_aload dX9_manyNow_16 rfl ?_
      obtain ⟨fs_1, ff_1⟩ := hI.o
      refine aw_callF (mm' := mJx35411_hasNext_aae02) (x := yItr_has) (As := []) (rest := []) (n := 0) (c_hasNext G hDk hI (by omega) (by omega)) ⟨w_1000, w_25, by decide +kernel⟩ w_998 w_996 (fun U hK => hK.2.2.2.2.2.2.2.1.1) (by decide +kernel) w_992 ff_1 rfl rfl rfl (Nat.le_of_ble_eq_true rfl) dX9_manyNow_18 ⟨Nat.le_of_ble_eq_true rfl, Nat.le_of_ble_eq_true rfl⟩ ⟨Nat.le_of_ble_eq_true rfl, Nat.le_of_ble_eq_true rfl⟩ (fun v_2 h_2 n_2 q_2 z_2 => ?_) (fun E h9 n9 q9 => by obtain ⟨e9, -⟩ := q9; cases e9)
      obtain ⟨q_2, hh9, hn9⟩ := q_2
      have hh9 := hh9.symm
      subst hh9
      have hn9 := hn9.symm
      subst hn9
      cases q_2
      refine aw_if_eqB (tgt := 67) dX9_manyNow_23 (by decide) (fun c1 => ?_) (fun c1 => ?_)
      · skip
        have hin : i = σ.1.length := by have := of_decide_eq_false c1; omega
        have fm := (ho m hmn).trans w_1f
        refine aw_bp (v := 6) dX9_manyNow_67 (by decide) ?_
        refine aw_newarrIV (by decide) w_56 (Nat.le_of_ble_eq_true rfl) (Nat.le_of_ble_eq_true rfl) dX9_manyNow_69 (fun h_3 f_1 o_1 => ?_)
        have f_2 := (o_1 m (by omega)).trans fm
        refine aw_nx (show nx + 1 + 1 = nx + 2 from rfl) ?_
        refine aw_dup dX9_manyNow_71 rfl ?_
        refine aw_ic dX9_manyNow_72 ic_0 ?_
        refine aw_aload_n dX9_manyNow_73 rfl ?_
        refine aw_get 1 f_2 rfl rfl (by decide) w_731 rfl dX9_manyNow_74 ?_
        have hX_1 := hDL.fr (h1 := h_3) hO (by decide) (fun b hb => ((o_1 b (by omega))).trans (ho b hb))
        have hX_2 := hX_1
        obtain ⟨u_21, u_2m, u_2e, u_22, u_23, u_24⟩ := hX_2
        refine aw_callVR (As := []) (rest := [.int (nI (0)), .ref (nx + 1), .ref (nx + 1)]) (c_Lsize G hX_1) kJx4a65c_size_8abf5 w_761 u_22 rfl rfl rfl rfl (Nat.le_of_ble_eq_true rfl) dX9_manyNow_77 ⟨Nat.le_of_ble_eq_true rfl, Nat.le_of_ble_eq_true rfl⟩ ⟨Nat.le_of_ble_eq_true rfl, Nat.le_of_ble_eq_true rfl⟩ ?_
        refine aw_iastoreV f_1 (by omega) (by omega) dX9_manyNow_80 (fun h_4 f_3 o_2 => ?_)
        have f_4 := (o_2 m (by omega)).trans f_2
        have f_5 := (o_2 (m + 1) (by omega)).trans u_22
        refine aw_dup dX9_manyNow_81 rfl ?_
        refine aw_ic dX9_manyNow_82 ic_1 ?_
        refine aw_aload_n dX9_manyNow_83 rfl ?_
        refine aw_get 2 f_4 rfl rfl (by decide) w_732 rfl dX9_manyNow_84 ?_
        have hX_3 := hSL.fr (h1 := h_4) hO (by decide) (fun b hb => (((o_2 b (by omega)).trans (o_1 b (by omega)))).trans (ho b hb))
        have hX_4 := hX_3
        obtain ⟨u_31, u_3m, u_3e, u_32, u_33, u_34⟩ := hX_4
        refine aw_callVR (As := []) (rest := [.int (nI (1)), .ref (nx + 1), .ref (nx + 1)]) (c_Lsize G hX_3) kJx4a65c_size_8abf5 w_761 u_32 rfl rfl rfl rfl (Nat.le_of_ble_eq_true rfl) dX9_manyNow_87 ⟨Nat.le_of_ble_eq_true rfl, Nat.le_of_ble_eq_true rfl⟩ ⟨Nat.le_of_ble_eq_true rfl, Nat.le_of_ble_eq_true rfl⟩ ?_
        refine aw_iastoreV f_3 (by omega) (by omega) dX9_manyNow_90 (fun h_5 f_6 o_3 => ?_)
        have f_7 := (o_3 m (by omega)).trans f_4
        have f_8 := (o_3 (m + 1) (by omega)).trans f_5
        have f_9 := (o_3 (m + 2) (by omega)).trans u_32
        refine aw_dup dX9_manyNow_91 rfl ?_
        refine aw_ic dX9_manyNow_92 ic_2 ?_
        refine aw_iload_n dX9_manyNow_93 rfl ?_
        refine aw_iastoreV f_6 (by omega) (by omega) dX9_manyNow_94 (fun h_6 f_10 o_4 => ?_)
        have f_11 := (o_4 m (by omega)).trans f_7
        have f_12 := (o_4 (m + 1) (by omega)).trans f_8
        have f_13 := (o_4 (m + 2) (by omega)).trans f_9
        refine aw_dup dX9_manyNow_95 rfl ?_
        refine aw_ic dX9_manyNow_96 ic_3 ?_
        refine aw_aload_n dX9_manyNow_97 rfl ?_
        refine aw_get 3 f_11 rfl rfl (by decide) w_733 rfl dX9_manyNow_98 ?_
        refine aw_iastoreV f_10 (by omega) (by omega) dX9_manyNow_101 (fun h_7 f_14 o_5 => ?_)
        have f_15 := (o_5 m (by omega)).trans f_11
        have f_16 := (o_5 (m + 1) (by omega)).trans f_12
        have f_17 := (o_5 (m + 2) (by omega)).trans f_13
        refine aw_dup dX9_manyNow_102 rfl ?_
        refine aw_ic dX9_manyNow_103 ic_4 ?_
        refine aw_iload_n dX9_manyNow_104 rfl ?_
        refine aw_iastoreV f_14 (by omega) (by omega) dX9_manyNow_105 (fun h_8 f_18 o_6 => ?_)
        have f_19 := (o_6 m (by omega)).trans f_15
        have f_20 := (o_6 (m + 1) (by omega)).trans f_16
        have f_21 := (o_6 (m + 2) (by omega)).trans f_17
        refine aw_dup dX9_manyNow_106 rfl ?_
        refine aw_ic dX9_manyNow_107 ic_5 ?_
        refine aw_iload dX9_manyNow_108 rfl ?_
        refine aw_iastoreV f_18 (by omega) (by omega) dX9_manyNow_110 (fun h_9 f_22 o_7 => ?_)
        have f_23 := (o_7 m (by omega)).trans f_19
        have f_24 := (o_7 (m + 1) (by omega)).trans f_20
        have f_25 := (o_7 (m + 2) (by omega)).trans f_21
        refine aw_astore (L' := [(5, .ref (nx + 1)), (0, .ref (m)), (1, .int (nI (u))), (2, .int (nI (p))), (3, .int (nI (q))), (4, .int (nI (r)))]) dX9_manyNow_111 (by decide) rfl ?_
        refine aw_aload dX9_manyNow_113 rfl ?_
        refine aw_iload_n dX9_manyNow_115 rfl ?_
        have hfu : (upd (upd (upd (upd (upd (upd (fun _ => 0) 0 (nI (ds.length))) 1 (nI (ss.length))) 2 (nI (p))) 3 (nI (σ.2.2))) 4 (nI (q))) 5 (nI (r))) u = nI (manyS σ u) := by rcases (show u = 0 ∨ u = 1 ∨ u = 2 ∨ u = 3 ∨ u = 4 ∨ u = 5 by omega) with rfl | rfl | rfl | rfl | rfl | rfl <;> simp [upd, manyS, hdn, hsn, hp, hq, hr, hin]
        refine aw_iaload f_22 (by omega) (by omega) dX9_manyNow_116 ?_
        refine aw_top (show ((upd (upd (upd (upd (upd (upd (fun _ => 0) 0 (nI (ds.length))) 1 (nI (ss.length))) 2 (nI (p))) 3 (nI (σ.2.2))) 4 (nI (q))) 5 (nI (r))) u) = (nI (manyS σ u)) from hfu) ?_
        exact aw_ireturn dX9_manyNow_117 rfl ⟨_, rfl, rfl, by omega, fun b hb => ((((((((o_7 b (by omega)).trans (o_6 b (by omega))).trans (o_5 b (by omega))).trans (o_4 b (by omega))).trans (o_3 b (by omega))).trans (o_2 b (by omega))).trans (o_1 b (by omega)))).trans (ho b hb)⟩ (Nat.le_of_ble_eq_true rfl) (Nat.le_of_ble_eq_true rfl)
      · skip
        have hil : i < σ.1.length := by have := of_decide_eq_true c1; omega
        refine aw_aload dX9_manyNow_26 rfl ?_
        obtain ⟨fs_2, ff_2⟩ := hI.o
        refine aw_callF (mm' := mJx35411_next_0502b) (x := yItr_next) (As := []) (rest := []) (n := 0) (c_next G hDk hI (by omega) (by omega) (by rw [hO nx (Nat.le_refl _)]; decide) (by omega)) ⟨w_1009, w_25, by decide +kernel⟩ w_1007 w_1005 (fun U hK => hK.2.2.2.2.2.2.2.1.2) (by decide +kernel) w_1002 ff_2 rfl rfl rfl (Nat.le_of_ble_eq_true rfl) dX9_manyNow_28 ⟨Nat.le_of_ble_eq_true rfl, Nat.le_of_ble_eq_true rfl⟩ ⟨Nat.le_of_ble_eq_true rfl, Nat.le_of_ble_eq_true rfl⟩ (fun v_3 h_10 n_3 q_3 z_3 => ?_) (fun E h9 n9 q9 => by obtain ⟨v9, e9, -⟩ := q9; cases e9)
        obtain ⟨v_4, hv9, rfl, hn9, I_1, o_8⟩ := q_3
        have hn9 := hn9.symm
        subst hn9
        cases hv9
        obtain ⟨a, b, l, ps, sc, hdd, hC, hb, hbm, hl2, hl16, hc, ha, hsc⟩ := hDD i hil
        have hoy : ∀ b, b < nx → h_10 b = h b := fun b hb => (o_8 b (by omega)).trans (ho b hb)
        obtain ⟨dk, hdk⟩ : ∃ dk, dk = ds.getD i 0 := ⟨_, rfl⟩
        rw [← hdk] at hC hb hbm ⊢
        have hCy := hC.keep (hoy dk hb.1) (hoy a hb.2.1) (hoy b hb.2.2)
        have hCy0 := hCy
        obtain ⟨y_1f, y_1g, y_11, y_12, y_13, y_1v⟩ := hCy
        refine aw_castO y_11 rfl rfl w_765 dX9_manyNow_33 ?_
        refine aw_astore (L' := [(6, .ref (dk)), (0, .ref (m)), (1, .int (nI (u))), (2, .int (nI (p))), (3, .int (nI (q))), (4, .int (nI (r))), (5, .ref (nx))]) dX9_manyNow_36 (by decide) rfl ?_
        refine aw_iload_n dX9_manyNow_38 rfl ?_
        refine aw_aload dX9_manyNow_39 rfl ?_
        refine aw_getN 4 y_11 rfl rfl (by decide) w_780 rfl dX9_manyNow_41 ?_
        refine aw_iaddN dX9_manyNow_44 ?_
        refine aw_istore_n (L' := [(2, .int (nI (p + sc))), (6, .ref (dk)), (0, .ref (m)), (1, .int (nI (u))), (3, .int (nI (q))), (4, .int (nI (r))), (5, .ref (nx))]) dX9_manyNow_45 (by decide) rfl ?_
        refine aw_iload_n dX9_manyNow_46 rfl ?_
        refine aw_aload dX9_manyNow_47 rfl ?_
        refine aw_callVR (As := []) (rest := [.int (nI (q))]) (c_X7_size G hCy0 hc hl16) kX7_size w_868 y_11 rfl rfl rfl rfl (Nat.le_of_ble_eq_true rfl) dX9_manyNow_49 ⟨Nat.le_of_ble_eq_true rfl, Nat.le_of_ble_eq_true rfl⟩ ⟨Nat.le_of_ble_eq_true rfl, Nat.le_of_ble_eq_true rfl⟩ ?_
        refine aw_iaddN dX9_manyNow_52 ?_
        refine aw_istore_n (L' := [(3, .int (nI (q + l.length))), (2, .int (nI (p + sc))), (6, .ref (dk)), (0, .ref (m)), (1, .int (nI (u))), (4, .int (nI (r))), (5, .ref (nx))]) dX9_manyNow_53 (by decide) rfl ?_
        refine aw_iload dX9_manyNow_54 rfl ?_
        refine aw_aload dX9_manyNow_56 rfl ?_
        refine aw_callVR (As := []) (rest := [.int (nI (r))]) (c_X7_ups G hCy0 hc hl16) kX7_ups w_1062 y_11 rfl rfl rfl rfl (Nat.le_of_ble_eq_true rfl) dX9_manyNow_58 ⟨Nat.le_of_ble_eq_true rfl, Nat.le_of_ble_eq_true rfl⟩ ⟨Nat.le_of_ble_eq_true rfl, Nat.le_of_ble_eq_true rfl⟩ ?_
        refine aw_iaddN dX9_manyNow_61 ?_
        refine aw_istore (L' := [(4, .int (nI (r + (ups l l.length)))), (3, .int (nI (q + l.length))), (2, .int (nI (p + sc))), (6, .ref (dk)), (0, .ref (m)), (1, .int (nI (u))), (5, .ref (nx))]) dX9_manyNow_62 (by decide) rfl ?_
        refine aw_goto (tgt := 16) dX9_manyNow_64 (by decide) ?_
        refine aw_sub (L' := [(0, .ref (m)), (1, .int (nI (u))), (2, .int (nI (p + sc))), (3, .int (nI (q + l.length))), (4, .int (nI (r + (ups l l.length)))), (5, .ref (nx))]) [4, 5, 2, 1, 0, 6] rfl ?_
        exact ih (i + 1) (p + sc) (q + l.length) (r + ups l l.length) h_10 (by omega) (by omega) (by simp only [sumD]; rw [hp, hdd]) (by simp only [sumD]; rw [hq, hdd]) (by simp only [sumD]; rw [hr, hdd]) I_1 hoy
  refine aw_sub (L' := [(0, .ref (m)), (1, .int (nI (u))), (2, .int (nI (0))), (3, .int (nI (0))), (4, .int (nI (0))), (5, .ref (nx))]) [4, 5, 3, 2, 1, 0] rfl ?_
  exact K (σ.1.length + 1) 0 0 0 0 h_1 (by omega) (Nat.zero_le _) rfl rfl rfl hI (fun b hb => oI b (by omega))
set_option maxHeartbeats 4000000 in
set_option maxRecDepth 20000 in
/-- many -/
theorem m_X9_many (G : aG) {h : aH} {nx m c : Nat} {own : Nat → Nat} {σ : aSg} {th : Int32} (hM : MAt G own h nx m σ th) (hσ : sgOk c σ) (hc9 : c ≤ 512) (w : Int32) : aMet G mX9_many 6 2 10 [.ref (m), .int (w)] h nx (mPo G own h nx m cdB (.int (nI 0)) (sMany σ w)) := by
  have h4 := hσ.1
  have h5 := hσ.2.1
  have hmn := own_lt hM.1 (b := m) (by rw [hM.2.1]; decide)
  refine aMet_of rfl (Nat.le_of_ble_eq_true rfl) ?_
  show aw G mX9_many [] (aRoom 6 2 10) (aEnd G (mPo G own h nx m cdB (.int (nI 0)) (sMany σ w)) 2 10) 0 0 h nx 0 [(0, .ref (m)), (1, .int (w))] []
  have w_1M := hM
  obtain ⟨w_1o, w_1m, ⟨w_1s, w_1f⟩, -⟩ := w_1M
  refine aw_aload_n dX9_many_0 rfl ?_
  refine aw_ic dX9_many_1 ic_0 ?_
  refine aw_putV (v := .int (nI (0))) (ty := .int) (fs' := [.int (nI (0)), .ref (m + 1), .ref (m + 2), .int (nI (σ.2.2)), .long (w_1s)]) 0 w_1f rfl rfl (by decide) (by decide +kernel) rfl rfl rfl (Nat.le_of_ble_eq_true rfl) rfl w_730 dX9_many_2 (fun h_1 f_1 o_1 => ?_)
  refine aw_iload_n dX9_many_5 rfl ?_
  refine aw_ic dX9_many_6 ic_0 ?_
  refine aw_ic dX9_many_7 ic_5 ?_
  have hM1 := hM.th hσ.1 hσ.2.1 (Nat.le_refl _) f_1 (fun q hq hqm => (o_1 q (by omega)))
  refine aw_callSR (As := [.int (w), .int (nI (0)), .int (nI (5))]) (rest := []) (c_X9_is G w (nI 0) (nI 5)) kX9_is w_754 rfl rfl (Nat.le_of_ble_eq_true rfl) dX9_many_8 ⟨Nat.le_of_ble_eq_true rfl, Nat.le_of_ble_eq_true rfl⟩ ⟨Nat.le_of_ble_eq_true rfl, Nat.le_of_ble_eq_true rfl⟩ ?_
  have hz : decide ((nI 0).toInt ≤ w.toInt ∧ w.toInt ≤ (nI 5).toInt) = wIn w 0 5 := by unfold wIn; rw [show (nI 0).toInt = 0 by decide, show (nI 5).toInt = 5 by decide]
  rw [hz]
  refine aw_if_eqB (tgt := 22) dX9_many_11 (by decide) (fun hw => ?_) (fun hw => ?_)
  · skip
    refine aw_aload_n dX9_many_22 rfl ?_
    refine aw_ic dX9_many_23 ic_1 ?_
    refine aw_callVQ (As := [.int (nI (1))]) (rest := []) (c_X9_refuse G f_1) kX9_refuse w_757 f_1 rfl rfl rfl rfl (Nat.le_of_ble_eq_true rfl) dX9_many_24 ⟨Nat.le_of_ble_eq_true rfl, Nat.le_of_ble_eq_true rfl⟩ ⟨Nat.le_of_ble_eq_true rfl, Nat.le_of_ble_eq_true rfl⟩ (fun v_1 h_2 n_1 q_1 z_1 => ?_)
    obtain ⟨rfl, rfl, qm, qo⟩ := q_1
    have hs : sMany σ w = (.inr xIAE, σ) := by unfold sMany; rw [hw]; rfl
    exact aw_ireturn dX9_many_27 rfl (mAsk hσ.1 hσ.2.1 hM (by omega) qm (fun q hq hqm => ((qo q (by omega)).trans (o_1 q (by omega)))) hs (mR cdB_iae)) (Nat.le_of_ble_eq_true rfl) (Nat.le_of_ble_eq_true rfl)
  · skip
    obtain ⟨u, -, hu, hwu⟩ := wIn_nat (a := 0) (b := 5) hw (by decide)
    refine aw_aload_n dX9_many_14 rfl ?_
    refine aw_iload_n dX9_many_15 rfl ?_
    refine aw_top (show (w) = (nI (u)) from hwu) ?_
    refine aw_callVQ (As := [.int (nI (u))]) (rest := []) (c_X9_manyNow G hM1 hσ hc9 hu) kX9_manyNow w_1140 f_1 rfl rfl rfl rfl (Nat.le_of_ble_eq_true rfl) dX9_many_16 ⟨Nat.le_of_ble_eq_true rfl, Nat.le_of_ble_eq_true rfl⟩ ⟨Nat.le_of_ble_eq_true rfl, Nat.le_of_ble_eq_true rfl⟩ (fun v_2 h_3 n_2 q_2 z_2 => ?_)
    obtain ⟨rfl, z_2, o_2⟩ := q_2
    have f_2 := (o_2 m (by omega)).trans f_1
    refine aw_goto (tgt := 27) dX9_many_19 (by decide) ?_
    have hs : sMany σ w = (.inl (some (.int (nI (manyS σ u)))), σ) := by unfold sMany; rw [if_pos hw, hwu, nI_nat (by omega)]
    exact aw_ireturn dX9_many_27 rfl (mAsk hσ.1 hσ.2.1 hM (by omega) f_2 (fun q hq hqm => ((o_2 q (by omega)).trans (o_1 q (by omega)))) hs rfl) (Nat.le_of_ble_eq_true rfl) (Nat.le_of_ble_eq_true rfl)
set_option maxHeartbeats 4000000 in
set_option maxRecDepth 20000 in
/-- wayOf(x, n) -/
theorem c_X9_wayOf (G : aG) {h : aH} {nx m c : Nat} {own : Nat → Nat} {σ : aSg} {th : Int32} (hM : MAt G own h nx m σ th) (hσ : sgOk c σ) (hc9 : c ≤ 512) {x : Int32} (hx : inS σ x = true) {n : Nat} (hn : 2 ≤ n ∧ n ≤ 16) : aMet G mX9_wayOf 4 52 582 [.ref (m), .int (x), .int (nI (n))] h nx (pQ (fun r h1 n1 => nx ≤ n1 ∧ (∀ b, b < nx → h1 b = h b) ∧ ((seqL (sqI σ x) n = none ∧ r = some .null) ∨ ∃ (z : List Nat) (a : Nat), seqL (sqI σ x) n = some z ∧ r = some (.ref a) ∧ nx ≤ a ∧ a + 3 ≤ n1 ∧ WayAt h1 a z))) := by
  obtain ⟨jq, sq, ss, ts, st, hj4, hjl, hxj, hsI, hSL, hjss, hss4, hss, hLs, hts, hST, hst⟩ := hM.seq hσ hx
  rw [hsI]
  have hst1 := hst.1
  have hst2 := hst.2
  have hO := hM.1
  have hmn := own_lt hM.1 (b := m) (by rw [hM.2.1]; decide)
  have hsqn := own_lt hO (b := sq) (by rw [hLs.1]; omega)
  have hm2n := own_lt hO (b := m + 2) (by rw [hSL.1]; decide)
  refine aMet_of rfl (Nat.le_of_ble_eq_true rfl) ?_
  show aw G mX9_wayOf [] (aRoom 4 52 582) (aEnd G (pQ (fun r h1 n1 => nx ≤ n1 ∧ (∀ b, b < nx → h1 b = h b) ∧ ((seqL (st) n = none ∧ r = some .null) ∨ ∃ (z : List Nat) (a : Nat), seqL (st) n = some z ∧ r = some (.ref a) ∧ nx ≤ a ∧ a + 3 ≤ n1 ∧ WayAt h1 a z))) 52 582) 0 0 h nx 0 [(0, .ref (m)), (1, .int (x)), (2, .int (nI (n)))] []
  have w_1M := hM
  obtain ⟨w_1o, w_1m, ⟨w_1s, w_1f⟩, -⟩ := w_1M
  refine aw_newV (ci := 7) (fs := [.null, .null]) rfl w_879 w_880 w_24 (by decide +kernel) (Nat.le_of_ble_eq_true rfl) (Nat.le_of_ble_eq_true rfl) dX9_wayOf_0 (fun h_1 f_1 o_1 => ?_)
  have f_2 := (o_1 m (by omega)).trans w_1f
  refine aw_dup dX9_wayOf_3 rfl ?_
  refine aw_iload_n dX9_wayOf_4 rfl ?_
  refine aw_callIQ (As := [.int (nI (n))]) (rest := [.ref (nx)]) (c_X8_init G f_1 hn.2) kX8_init w_881 rfl rfl (Nat.le_of_ble_eq_true rfl) dX9_wayOf_5 ⟨Nat.le_of_ble_eq_true rfl, Nat.le_of_ble_eq_true rfl⟩ ⟨Nat.le_of_ble_eq_true rfl, Nat.le_of_ble_eq_true rfl⟩ (fun v_1 h_2 n_1 q_1 z_1 => ?_)
  obtain ⟨rfl, rfl, hW0, oW0⟩ := q_1
  refine aw_nx (show _ = nx + 3 from rfl) ?_
  have ho1 : ∀ b, b < nx → h_2 b = h b := fun b hb => (oW0 b (by omega)).trans (o_1 b (by omega))
  have fm1 := (ho1 m hmn).trans w_1f
  have hSL1 := hSL.fr hO (by decide) ho1
  have hLs1 := hLs.fr hO (by omega) ho1
  refine aw_astore_n (L' := [(3, .ref (nx)), (0, .ref (m)), (1, .int (x)), (2, .int (nI (n)))]) dX9_wayOf_8 (by decide) rfl ?_
  refine aw_aload_n dX9_wayOf_9 rfl ?_
  refine aw_get 2 fm1 rfl rfl (by decide) w_732 rfl dX9_wayOf_10 ?_
  refine aw_iload_n dX9_wayOf_13 rfl ?_
  have hL_1 := hSL1
  obtain ⟨u_11, u_1m, u_1e, u_12, u_13, u_14⟩ := hL_1
  refine aw_top (show (x) = (nI (jq)) from hxj) ?_
  refine aw_callVR (As := [.int (nI (jq))]) (rest := []) (c_Lget G hSL1 hjss (by omega)) kJx4a65c_get_915e3 w_854 u_12 rfl rfl rfl rfl (Nat.le_of_ble_eq_true rfl) dX9_wayOf_14 ⟨Nat.le_of_ble_eq_true rfl, Nat.le_of_ble_eq_true rfl⟩ ⟨Nat.le_of_ble_eq_true rfl, Nat.le_of_ble_eq_true rfl⟩ ?_
  rw [hss]
  have hL_2 := hLs1
  obtain ⟨u_21, u_2m, u_2e, u_22, u_23, u_24⟩ := hL_2
  refine aw_castO u_22 rfl rfl w_701 dX9_wayOf_17 ?_
  refine aw_callVQ (As := []) (rest := []) (c_Liter G hLs1 (by omega)) kJx4a65c_iterator_32c93 w_968 u_22 rfl rfl rfl rfl (Nat.le_of_ble_eq_true rfl) dX9_wayOf_20 ⟨Nat.le_of_ble_eq_true rfl, Nat.le_of_ble_eq_true rfl⟩ ⟨Nat.le_of_ble_eq_true rfl, Nat.le_of_ble_eq_true rfl⟩ (fun v_2 h_3 n_2 q_2 z_2 => ?_)
  obtain ⟨rfl, rfl, hI, oI⟩ := q_2
  refine aw_astore (L' := [(4, .ref (nx + 3)), (3, .ref (nx)), (0, .ref (m)), (1, .int (x)), (2, .int (nI (n)))]) dX9_wayOf_23 (by decide) rfl ?_
  refine aw_widen (cells' := 4 + 6 * 0) (slots' := 38 + 68 * 0) (Nat.le_of_ble_eq_true rfl) (Nat.le_of_ble_eq_true rfl) ?_
  have K : ∀ (d : Nat) (t p nx1 : Nat) (l2 : List Nat) (h1 : aH), st.length - t < d → (t ≤ st.length ∧ nx + 4 ≤ nx1 ∧ p + 3 ≤ nx1 ∧ nx ≤ p ∧ p ≠ nx + 3 ∧ p + 1 ≠ nx + 3 ∧ p + 2 ≠ nx + 3) → (cOk n l2) → (seqF n l2 (st.drop t) = seqL st n) → (WayAt h1 p l2) → (ItAt h1 (nx + 3) sq t) → (∀ b, b < nx → h1 b = h b) → aw G mX9_wayOf [] (aRoom 4 52 582) (aEnd G (pQ (fun r h1 n1 => nx ≤ n1 ∧ (∀ b, b < nx → h1 b = h b) ∧ ((seqL (st) n = none ∧ r = some .null) ∨ ∃ (z : List Nat) (a : Nat), seqL (st) n = some z ∧ r = some (.ref a) ∧ nx ≤ a ∧ a + 3 ≤ n1 ∧ WayAt h1 a z))) 52 582) (4 + 6 * t) (38 + 68 * t) h1 nx1 25 [(0, .ref (m)), (1, .int (x)), (2, .int (nI (n))), (3, .ref (p)), (4, .ref (nx + 3))] [] := by
    intro d
    induction d with
    | zero => intro t p nx1 l2 h1 hMd; exact absurd hMd (Nat.not_lt_zero _)
    | succ d ih =>
      intro t p nx1 l2 h1 hMd ht hl2 hE hW hI ho
      have hLk := hLs.fr hO (by omega) ho
      refine aw_aload dX9_wayOf_25 rfl ?_
      obtain ⟨fs_1, ff_1⟩ := hI.o
      refine aw_callF (mm' := mJx35411_hasNext_aae02) (x := yItr_has) (As := []) (rest := []) (n := 0) (c_hasNext G hLk hI (by omega) (by omega)) ⟨w_1000, w_25, by decide +kernel⟩ w_998 w_996 (fun U hK => hK.2.2.2.2.2.2.2.1.1) (by decide +kernel) w_992 ff_1 rfl rfl rfl (Nat.le_of_ble_eq_true rfl) dX9_wayOf_27 ⟨Nat.le_of_ble_eq_true rfl, Nat.le_of_ble_eq_true rfl⟩ ⟨(show 4 + 6 * t + 0 ≤ 52 by omega), (show 38 + 68 * t + 0 ≤ 582 by omega)⟩ (fun v_3 h_4 n_3 q_3 z_3 => ?_) (fun E h9 n9 q9 => by obtain ⟨e9, -⟩ := q9; cases e9)
      obtain ⟨q_3, hh9, hn9⟩ := q_3
      have hh9 := hh9.symm
      subst hh9
      have hn9 := hn9.symm
      subst hn9
      cases q_3
      refine aw_if_eqB (tgt := 84) dX9_wayOf_32 (by decide) (fun c1 => ?_) (fun c1 => ?_)
      · skip
        have htn : t = st.length := by have := of_decide_eq_false c1; omega
        rw [htn, List.drop_length] at hE
        refine aw_aload_n dX9_wayOf_84 rfl ?_
        exact aw_areturn dX9_wayOf_85 rfl (Or.inl ⟨_, rfl⟩) (Or.inr ⟨_, rfl⟩) ⟨_, rfl, by omega, ho, Or.inr ⟨l2, p, hE.symm, rfl, ht.2.2.2.1, ht.2.2.1, hW⟩⟩ (by omega) (by omega)
      · skip
        have htl : t < st.length := by have := of_decide_eq_true c1; omega
        refine aw_aload dX9_wayOf_35 rfl ?_
        obtain ⟨fs_2, ff_2⟩ := hI.o
        refine aw_callF (mm' := mJx35411_next_0502b) (x := yItr_next) (As := []) (rest := []) (n := 0) (c_next G hLk hI (by omega) (by omega) (by rw [hO _ (by omega)]; omega) (by omega)) ⟨w_1009, w_25, by decide +kernel⟩ w_1007 w_1005 (fun U hK => hK.2.2.2.2.2.2.2.1.2) (by decide +kernel) w_1002 ff_2 rfl rfl rfl (Nat.le_of_ble_eq_true rfl) dX9_wayOf_37 ⟨Nat.le_of_ble_eq_true rfl, Nat.le_of_ble_eq_true rfl⟩ ⟨(show 4 + 6 * t + 0 ≤ 52 by omega), (show 38 + 68 * t + 0 ≤ 582 by omega)⟩ (fun v_4 h_5 n_4 q_4 z_4 => ?_) (fun E h9 n9 q9 => by obtain ⟨v9, e9, -⟩ := q9; cases e9)
        obtain ⟨v_5, hv9, rfl, hn9, I_1, o_2⟩ := q_4
        have hn9 := hn9.symm
        subst hn9
        cases hv9
        have hoy : ∀ b, b < nx → h_5 b = h b := fun b hb => (o_2 b (by omega)).trans (ho b hb)
        have hWy := hW.keep (fun b g1 g2 => o_2 b (by omega))
        obtain ⟨q1, q2⟩ := hST t htl
        have q3 := own_lt hO (b := ts.getD t 0) (by omega)
        obtain ⟨xa, hxa⟩ : ∃ xa, xa = ts.getD t 0 := ⟨_, rfl⟩
        rw [← hxa] at q1 q2 q3 ⊢
        have q4 := q2.keep (hoy xa q3)
        obtain ⟨yf, y1, y2, y3⟩ := q4
        refine aw_castI y1 w_1014 dX9_wayOf_42 ?_
        obtain ⟨ka, na, hka⟩ : ∃ ka na, st.getD t (0, 0) = (ka, na) := ⟨_, _, rfl⟩
        have hk2 := hst2 t htl
        rw [hka] at y2 y3 hk2
        have hk2 : ka ≤ 9 ∧ na < 2 ^ 31 := hk2
        have hdr := drop_get htl
        rw [hdr, hka] at hE
        unfold seqF at hE
        have hE : (if isO (ka : Int) (na : Int) n then seqF n (fol l2 (layL ka na n)) (st.drop (t + 1)) else none) = seqL st n := hE
        refine aw_astore (L' := [(5, .ref (xa)), (0, .ref (m)), (1, .int (x)), (2, .int (nI (n))), (3, .ref (p)), (4, .ref (nx + 3))]) dX9_wayOf_45 (by decide) rfl ?_
        refine aw_aload dX9_wayOf_47 rfl ?_
        refine aw_ic dX9_wayOf_49 ic_0 ?_
        refine aw_iaload y1 (by omega) (by omega) dX9_wayOf_50 ?_
        refine aw_top (show (yf 0) = (nI (ka)) from y2) ?_
        refine aw_aload dX9_wayOf_51 rfl ?_
        refine aw_ic dX9_wayOf_53 ic_1 ?_
        refine aw_iaload y1 (by omega) (by omega) dX9_wayOf_54 ?_
        refine aw_top (show (yf 1) = (nI (na)) from y3) ?_
        refine aw_iload_n dX9_wayOf_55 rfl ?_
        refine aw_callSR (As := [.int (nI (ka)), .int (nI (na)), .int (nI (n))]) (rest := []) (c_X9_isShuffle G (nI ka) (nI na) hn) kX9_isShuffle w_872 rfl rfl (Nat.le_of_ble_eq_true rfl) dX9_wayOf_56 ⟨Nat.le_of_ble_eq_true rfl, Nat.le_of_ble_eq_true rfl⟩ ⟨(show 4 + 6 * t + 0 ≤ 52 by omega), (show 38 + 68 * t + 0 ≤ 582 by omega)⟩ ?_
        have tk : (nI ka).toInt = ((ka : Nat) : Int) := nI_toInt (by omega)
        have tn : (nI na).toInt = ((na : Nat) : Int) := nI_toInt hk2.2
        refine aw_if_neB (tgt := 64) dX9_wayOf_59 (by decide) (fun hO2 => ?_) (fun hO2 => ?_)
        · skip
          rw [tk, tn] at hO2
          rw [if_pos hO2] at hE
          refine aw_aload_n dX9_wayOf_64 rfl ?_
          refine aw_aload dX9_wayOf_65 rfl ?_
          refine aw_ic dX9_wayOf_67 ic_0 ?_
          refine aw_iaload y1 (by omega) (by omega) dX9_wayOf_68 ?_
          refine aw_top (show (yf 0) = (nI (ka)) from y2) ?_
          refine aw_aload dX9_wayOf_69 rfl ?_
          refine aw_ic dX9_wayOf_71 ic_1 ?_
          refine aw_iaload y1 (by omega) (by omega) dX9_wayOf_72 ?_
          refine aw_top (show (yf 1) = (nI (na)) from y3) ?_
          refine aw_iload_n dX9_wayOf_73 rfl ?_
          refine aw_callSQ (As := [.int (nI (ka)), .int (nI (na)), .int (nI (n))]) (rest := [.ref (p)]) (c_X9_way G (k := ka) (m := na) hn hO2) kX9_way w_876 rfl rfl (Nat.le_of_ble_eq_true rfl) dX9_wayOf_74 ⟨Nat.le_of_ble_eq_true rfl, Nat.le_of_ble_eq_true rfl⟩ ⟨(show 4 + 6 * t + 3 ≤ 52 by omega), (show 38 + 68 * t + 34 ≤ 582 by omega)⟩ (fun v_6 h_6 n_5 q_5 z_5 => ?_)
          obtain ⟨rfl, rfl, hV, oV⟩ := q_5
          have hWz := hWy.keep (fun b g1 g2 => oV b (by omega))
          have hWz0 := hWz
          obtain ⟨y_1f, y_1g, y_11, y_12, y_13, y_1v⟩ := hWz0
          refine aw_callVQ (As := [.ref (nx1)]) (rest := []) (c_X8_then G hWz hV hl2 (lay_cOk hO2) hn.2 (by omega) (by omega)) kX8_then w_1015 y_11 rfl rfl rfl rfl (Nat.le_of_ble_eq_true rfl) dX9_wayOf_77 ⟨Nat.le_of_ble_eq_true rfl, Nat.le_of_ble_eq_true rfl⟩ ⟨(show 4 + 6 * t + 3 + 3 ≤ 52 by omega), (show 38 + 68 * t + 34 + 34 ≤ 582 by omega)⟩ (fun v_7 h_7 n_6 q_6 z_6 => ?_)
          obtain ⟨rfl, rfl, X_1, o_3⟩ := q_6
          refine aw_astore_n (L' := [(3, .ref (nx1 + 3)), (5, .ref (xa)), (0, .ref (m)), (1, .int (x)), (2, .int (nI (n))), (4, .ref (nx + 3))]) dX9_wayOf_80 (by decide) rfl ?_
          refine aw_goto (tgt := 25) dX9_wayOf_81 (by decide) ?_
          refine aw_widen (cells' := 4 + 6 * (t + 1)) (slots' := 38 + 68 * (t + 1)) (by omega) (by omega) ?_
          refine aw_sub (L' := [(0, .ref (m)), (1, .int (x)), (2, .int (nI (n))), (3, .ref (nx1 + 3)), (4, .ref (nx + 3))]) [2, 3, 4, 0, 5] rfl ?_
          exact ih (t + 1) (nx1 + 3) (nx1 + 3 + 3) (fol l2 (layL ka na n)) h_7 (by omega) (by omega) (fol_cOk hl2 (lay_cOk hO2)) hE X_1 (I_1.keep ((o_3 _ (by omega)).trans (oV _ (by omega))) ((o_3 _ (by omega)).trans (oV _ (by omega)))) (fun b hb => (o_3 b (by omega)).trans ((oV b (by omega)).trans (hoy b hb)))
        · skip
          rw [tk, tn] at hO2
          rw [if_neg (by rw [hO2]; decide)] at hE
          refine aw_null dX9_wayOf_62 ?_
          exact aw_areturn dX9_wayOf_63 rfl (Or.inl ⟨_, rfl⟩) (Or.inl rfl) ⟨_, rfl, by omega, hoy, Or.inl ⟨hE.symm, rfl⟩⟩ (by omega) (by omega)
  refine aw_sub (L' := [(0, .ref (m)), (1, .int (x)), (2, .int (nI (n))), (3, .ref (nx)), (4, .ref (nx + 3))]) [2, 3, 4, 1, 0] rfl ?_
  exact K (st.length + 1) 0 nx (nx + 3 + 1) (idL n) h_3 (by omega) (by omega) idL_cOk rfl (hW0.keep (fun b g1 g2 => oI b (by omega))) hI (fun b hb => (oI b (by omega)).trans (ho1 b hb))
set_option maxHeartbeats 4000000 in
set_option maxRecDepth 20000 in
/-- periodNow(x, n) -/
theorem c_X9_periodNow (G : aG) {h : aH} {nx m c : Nat} {own : Nat → Nat} {σ : aSg} {th : Int32} (hM : MAt G own h nx m σ th) (hσ : sgOk c σ) (hc9 : c ≤ 512) {x : Int32} (hx : inS σ x = true) {n P : Nat} (hn : 2 ≤ n ∧ n ≤ 16) (hP : ∀ z, seqL (sqI σ x) n = some z → fpd z n n ≤ P) (hP2 : P ≤ 280) : aMet G mX9_periodNow 5 (52 + 3 * P) (582 + 34 * P) [.ref (m), .int (x), .int (nI (n))] h nx (pN (.int (perS (sqI σ x) n)) h nx) := by
  refine aMet_of rfl (Nat.le_of_ble_eq_true rfl) ?_
  show aw G mX9_periodNow [] (aRoom 5 (52 + 3 * P) (582 + 34 * P)) (aEnd G (pN (.int (perS (sqI σ x) n)) h nx) (52 + 3 * P) (582 + 34 * P)) 0 0 h nx 0 [(0, .ref (m)), (1, .int (x)), (2, .int (nI (n)))] []
  have w_1M := hM
  obtain ⟨w_1o, w_1m, ⟨w_1s, w_1f⟩, -⟩ := w_1M
  refine aw_aload_n dX9_periodNow_0 rfl ?_
  refine aw_iload_n dX9_periodNow_1 rfl ?_
  refine aw_iload_n dX9_periodNow_2 rfl ?_
  refine aw_callVQ (As := [.int (x), .int (nI (n))]) (rest := []) (c_X9_wayOf G hM hσ hc9 hx hn) kX9_wayOf w_964 w_1f rfl rfl rfl rfl (Nat.le_of_ble_eq_true rfl) dX9_periodNow_3 ⟨Nat.le_of_ble_eq_true rfl, Nat.le_of_ble_eq_true rfl⟩ ⟨(show 0 + 52 ≤ (52 + 3 * P) by omega), (show 0 + 582 ≤ (582 + 34 * P) by omega)⟩ (fun v_1 h_1 n_1 q_1 z_1 => ?_)
  obtain ⟨hle, ho, ⟨hs, rfl⟩ | ⟨zz, a, hs, rfl, han, han3, hW⟩⟩ := q_1
  · skip
    refine aw_astore_nN (L' := [(3, .null), (0, .ref (m)), (1, .int (x)), (2, .int (nI (n)))]) dX9_periodNow_6 (by decide) rfl ?_
    refine aw_aload_nN dX9_periodNow_7 rfl ?_
    refine aw_ifnonnullN dX9_periodNow_8 ?_
    refine aw_iconst dX9_periodNow_11 ic_m1 ?_
    exact aw_ireturn dX9_periodNow_12 rfl ⟨_, rfl, by unfold perS; rw [hs], hle, ho⟩ (by omega) (by omega)
  · skip
    have hz := seqL_cOk hs
    have hza := seqL_cAll hs
    have hPz := hP zz hs
    have hp0 := fpd_pos (z := zz) (n := n) n
    have hzn := hz.1
    refine aw_astore_n (L' := [(3, .ref (a)), (0, .ref (m)), (1, .int (x)), (2, .int (nI (n)))]) dX9_periodNow_6 (by decide) rfl ?_
    refine aw_aload_n dX9_periodNow_7 rfl ?_
    refine aw_ifnonnull (tgt := 13) dX9_periodNow_8 (by decide) ?_
    refine aw_ic dX9_periodNow_13 ic_1 ?_
    refine aw_istore (L' := [(4, .int (nI (1))), (3, .ref (a)), (0, .ref (m)), (1, .int (x)), (2, .int (nI (n)))]) dX9_periodNow_14 (by decide) rfl ?_
    refine aw_aload_n dX9_periodNow_16 rfl ?_
    refine aw_astore (L' := [(5, .ref (a)), (4, .int (nI (1))), (3, .ref (a)), (0, .ref (m)), (1, .int (x)), (2, .int (nI (n)))]) dX9_periodNow_17 (by decide) rfl ?_
    refine aw_widen (cells' := 52 + 3 * (1 - 1)) (slots' := 582 + 34 * (1 - 1)) (by omega) (by omega) ?_
    have K : ∀ (d : Nat) (t p nx1 : Nat) (h1 : aH), P + 1 - t < d → (1 ≤ t ∧ t ≤ fpd zz n n ∧ p + 3 ≤ nx1 ∧ a + 3 ≤ nx1 ∧ nx ≤ nx1) → (WayAt h1 p (pw n zz t)) → (WayAt h1 a zz) → (∀ j, 1 ≤ j → j < t → ¬ stillL (pw n zz j)) → (∀ b, b < nx → h1 b = h b) → aw G mX9_periodNow [] (aRoom 5 (52 + 3 * P) (582 + 34 * P)) (aEnd G (pN (.int (perS (sqI σ x) n)) h nx) (52 + 3 * P) (582 + 34 * P)) (52 + 3 * (t - 1)) (582 + 34 * (t - 1)) h1 nx1 19 [(0, .ref (m)), (1, .int (x)), (2, .int (nI (n))), (3, .ref (a)), (4, .int (nI (t))), (5, .ref (p))] [] := by
      intro d
      induction d with
      | zero => intro t p nx1 h1 hMd; exact absurd hMd (Nat.not_lt_zero _)
      | succ d ih =>
        intro t p nx1 h1 hMd ht hT hW hno ho
        have hpc := pw_cOk hz t
        have hT0 := hT
        obtain ⟨y_1f, y_1g, y_11, y_12, y_13, y_1v⟩ := hT0
        refine aw_aload dX9_periodNow_19 rfl ?_
        refine aw_callVR (As := []) (rest := []) (c_X8_isStill G hT hpc hn.2) kX8_isStill w_1132 y_11 rfl rfl rfl rfl (Nat.le_of_ble_eq_true rfl) dX9_periodNow_21 ⟨Nat.le_of_ble_eq_true rfl, Nat.le_of_ble_eq_true rfl⟩ ⟨(show 52 + 3 * (t - 1) + 0 ≤ (52 + 3 * P) by omega), (show 582 + 34 * (t - 1) + 0 ≤ (582 + 34 * P) by omega)⟩ ?_
        refine aw_if_neB (tgt := 41) dX9_periodNow_24 (by decide) (fun c1 => ?_) (fun c1 => ?_)
        · skip
          have h1 := (still_iff hz hza t).mp (of_decide_eq_true c1)
          have h2 := Nat.le_of_dvd (by omega) h1
          refine aw_iload dX9_periodNow_41 rfl ?_
          exact aw_ireturn dX9_periodNow_43 rfl ⟨_, rfl, by unfold perS; rw [hs, show t = fpd zz n n by omega], by omega, ho⟩ (by omega) (by omega)
        · skip
          have hne := of_decide_eq_false c1
          have hlt : t < fpd zz n n := by rcases Nat.lt_or_ge t (fpd zz n n) with q | q; exact q; exact absurd ((still_iff hz hza t).mpr (by rw [show t = fpd zz n n by omega]; exact Nat.dvd_refl _)) hne
          refine aw_iincN (k := 1) (L' := [(4, .int (nI (t + 1))), (0, .ref (m)), (1, .int (x)), (2, .int (nI (n))), (3, .ref (a)), (5, .ref (p))]) dX9_periodNow_27 (by decide) rfl (by decide) rfl ?_
          refine aw_aload dX9_periodNow_30 rfl ?_
          refine aw_aload_n dX9_periodNow_32 rfl ?_
          refine aw_callVQ (As := [.ref (a)]) (rest := []) (c_X8_then G hT hW hpc hz hn.2 (by omega) (by omega)) kX8_then w_1015 y_11 rfl rfl rfl rfl (Nat.le_of_ble_eq_true rfl) dX9_periodNow_33 ⟨Nat.le_of_ble_eq_true rfl, Nat.le_of_ble_eq_true rfl⟩ ⟨(show 52 + 3 * (t - 1) + 3 ≤ (52 + 3 * P) by omega), (show 582 + 34 * (t - 1) + 34 ≤ (582 + 34 * P) by omega)⟩ (fun v_2 h_2 n_2 q_2 z_2 => ?_)
          obtain ⟨rfl, rfl, X_1, o_1⟩ := q_2
          refine aw_astore (L' := [(5, .ref (nx1)), (4, .int (nI (t + 1))), (0, .ref (m)), (1, .int (x)), (2, .int (nI (n))), (3, .ref (a))]) dX9_periodNow_36 (by decide) rfl ?_
          refine aw_goto (tgt := 19) dX9_periodNow_38 (by decide) ?_
          refine aw_widen (cells' := 52 + 3 * (t + 1 - 1)) (slots' := 582 + 34 * (t + 1 - 1)) (by omega) (by omega) ?_
          refine aw_sub (L' := [(0, .ref (m)), (1, .int (x)), (2, .int (nI (n))), (3, .ref (a)), (4, .int (nI (t + 1))), (5, .ref (nx1))]) [2, 3, 4, 5, 1, 0] rfl ?_
          exact ih (t + 1) nx1 (nx1 + 3) h_2 (by omega) (by omega) X_1 (hW.keep (fun b g1 g2 => o_1 b (by omega))) (fun j h1 h2 => by rcases Nat.lt_or_ge j t with q | q; exact hno j h1 q; rw [show j = t by omega]; exact hne) (fun b hb => (o_1 b (by omega)).trans (ho b hb))
    refine aw_sub (L' := [(0, .ref (m)), (1, .int (x)), (2, .int (nI (n))), (3, .ref (a)), (4, .int (nI (1))), (5, .ref (a))]) [3, 4, 5, 2, 1, 0] rfl ?_
    exact K (P + 1) 1 a n_1 h_1 (by omega) (by omega) (by rw [pw_one hz]; exact hW) hW (fun j h1 h2 => by omega) ho
set_option maxHeartbeats 4000000 in
set_option maxRecDepth 20000 in
/-- period -/
theorem m_X9_period (G : aG) {h : aH} {nx m c : Nat} {own : Nat → Nat} {σ : aSg} {th : Int32} (hM : MAt G own h nx m σ th) (hσ : sgOk c σ) (hc9 : c ≤ 512) (x y : Int32) : aMet G mX9_period 7 892 10102 [.ref (m), .int (x), .int (y)] h nx (mPo G own h nx m cdA (.int (nI 0)) (sPeriod σ x y)) := by
  have h4 := hσ.1
  have h5 := hσ.2.1
  have hmn := own_lt hM.1 (b := m) (by rw [hM.2.1]; decide)
  refine aMet_of rfl (Nat.le_of_ble_eq_true rfl) ?_
  show aw G mX9_period [] (aRoom 7 892 10102) (aEnd G (mPo G own h nx m cdA (.int (nI 0)) (sPeriod σ x y)) 892 10102) 0 0 h nx 0 [(0, .ref (m)), (1, .int (x)), (2, .int (y))] []
  have w_1M := hM
  obtain ⟨w_1o, w_1m, ⟨w_1s, w_1f⟩, -⟩ := w_1M
  refine aw_aload_n dX9_period_0 rfl ?_
  refine aw_ic dX9_period_1 ic_0 ?_
  refine aw_putV (v := .int (nI (0))) (ty := .int) (fs' := [.int (nI (0)), .ref (m + 1), .ref (m + 2), .int (nI (σ.2.2)), .long (w_1s)]) 0 w_1f rfl rfl (by decide) (by decide +kernel) rfl rfl rfl (Nat.le_of_ble_eq_true rfl) rfl w_730 dX9_period_2 (fun h_1 f_1 o_1 => ?_)
  refine aw_aload_n dX9_period_5 rfl ?_
  refine aw_iload_n dX9_period_6 rfl ?_
  have hM1 := hM.th hσ.1 hσ.2.1 (Nat.le_refl _) f_1 (fun q hq hqm => (o_1 q (by omega)))
  refine aw_callVR (As := [.int (x)]) (rest := []) (c_X9_isSequence G hM1 hσ hc9 x) kX9_isSequence w_956 f_1 rfl rfl rfl rfl (Nat.le_of_ble_eq_true rfl) dX9_period_7 ⟨Nat.le_of_ble_eq_true rfl, Nat.le_of_ble_eq_true rfl⟩ ⟨Nat.le_of_ble_eq_true rfl, Nat.le_of_ble_eq_true rfl⟩ ?_
  refine aw_if_neB (tgt := 19) dX9_period_10 (by decide) (fun hx => ?_) (fun hx => ?_)
  · skip
    refine aw_iload_n dX9_period_19 rfl ?_
    refine aw_ic dX9_period_20 ic_2 ?_
    refine aw_bp (v := 16) dX9_period_21 (by decide) ?_
    refine aw_callSR (As := [.int (y), .int (nI (2)), .int (nI (16))]) (rest := []) (c_X9_is G y (nI 2) (nI 16)) kX9_is w_754 rfl rfl (Nat.le_of_ble_eq_true rfl) dX9_period_23 ⟨Nat.le_of_ble_eq_true rfl, Nat.le_of_ble_eq_true rfl⟩ ⟨Nat.le_of_ble_eq_true rfl, Nat.le_of_ble_eq_true rfl⟩ ?_
    have hz : decide ((nI 2).toInt ≤ y.toInt ∧ y.toInt ≤ (nI 16).toInt) = wIn y 2 16 := by unfold wIn; rw [show (nI 2).toInt = 2 by decide, show (nI 16).toInt = 16 by decide]
    rw [hz]
    refine aw_if_eqB (tgt := 38) dX9_period_26 (by decide) (fun hw => ?_) (fun hw => ?_)
    · skip
      refine aw_aload_n dX9_period_38 rfl ?_
      refine aw_ic dX9_period_39 ic_2 ?_
      refine aw_callVQ (As := [.int (nI (2))]) (rest := []) (c_X9_refuse G f_1) kX9_refuse w_757 f_1 rfl rfl rfl rfl (Nat.le_of_ble_eq_true rfl) dX9_period_40 ⟨Nat.le_of_ble_eq_true rfl, Nat.le_of_ble_eq_true rfl⟩ ⟨Nat.le_of_ble_eq_true rfl, Nat.le_of_ble_eq_true rfl⟩ (fun v_1 h_2 n_1 q_1 z_1 => ?_)
      obtain ⟨rfl, rfl, qm, qo⟩ := q_1
      have hs : sPeriod σ x y = (.inr xIAE, σ) := by unfold sPeriod; rw [if_pos hx, hw]; rfl
      exact aw_ireturn dX9_period_43 rfl (mAsk hσ.1 hσ.2.1 hM (by omega) qm (fun q hq hqm => ((qo q (by omega)).trans (o_1 q (by omega)))) hs (mR cdA_iae)) (Nat.le_of_ble_eq_true rfl) (Nat.le_of_ble_eq_true rfl)
    · skip
      obtain ⟨u, hu2, hu, hyu⟩ := wIn_nat (a := 2) (b := 16) hw (by decide)
      refine aw_aload_n dX9_period_29 rfl ?_
      refine aw_iload_n dX9_period_30 rfl ?_
      refine aw_iload_n dX9_period_31 rfl ?_
      refine aw_top (show (y) = (nI (u)) from hyu) ?_
      refine aw_callVQ (As := [.int (x), .int (nI (u))]) (rest := []) (c_X9_periodNow G hM1 hσ hc9 hx (n := u) (P := 280) ⟨by omega, hu⟩ (fun z hz => fpd_le (seqL_cOk hz) (seqL_cAll hz) (by omega) hu) (Nat.le_refl _)) kX9_periodNow w_1128 f_1 rfl rfl rfl rfl (Nat.le_of_ble_eq_true rfl) dX9_period_32 ⟨Nat.le_of_ble_eq_true rfl, Nat.le_of_ble_eq_true rfl⟩ ⟨Nat.le_of_ble_eq_true rfl, Nat.le_of_ble_eq_true rfl⟩ (fun v_2 h_3 n_2 q_2 z_2 => ?_)
      obtain ⟨rfl, z_2, o_2⟩ := q_2
      have f_2 := (o_2 m (by omega)).trans f_1
      refine aw_goto (tgt := 43) dX9_period_35 (by decide) ?_
      have hs : sPeriod σ x y = (.inl (some (.int (perS (sqI σ x) u))), σ) := by unfold sPeriod; rw [if_pos hx, if_pos hw, hyu, nI_nat (by omega)]
      exact aw_ireturn dX9_period_43 rfl (mAsk hσ.1 hσ.2.1 hM (by omega) f_2 (fun q hq hqm => ((o_2 q (by omega)).trans (o_1 q (by omega)))) hs rfl) (Nat.le_of_ble_eq_true rfl) (Nat.le_of_ble_eq_true rfl)
  · skip
    refine aw_aload_n dX9_period_13 rfl ?_
    refine aw_ic dX9_period_14 ic_1 ?_
    refine aw_callVQ (As := [.int (nI (1))]) (rest := []) (c_X9_refuse G f_1) kX9_refuse w_757 f_1 rfl rfl rfl rfl (Nat.le_of_ble_eq_true rfl) dX9_period_15 ⟨Nat.le_of_ble_eq_true rfl, Nat.le_of_ble_eq_true rfl⟩ ⟨Nat.le_of_ble_eq_true rfl, Nat.le_of_ble_eq_true rfl⟩ (fun v_3 h_4 n_3 q_3 z_3 => ?_)
    obtain ⟨rfl, rfl, qm, qo⟩ := q_3
    have hs : sPeriod σ x y = (.inr xIOB, σ) := by unfold sPeriod; rw [hx]; rfl
    exact aw_ireturn dX9_period_18 rfl (mAsk hσ.1 hσ.2.1 hM (by omega) qm (fun q hq hqm => ((qo q (by omega)).trans (o_1 q (by omega)))) hs (mR cdA_iob)) (Nat.le_of_ble_eq_true rfl) (Nat.le_of_ble_eq_true rfl)
