set_option maxHeartbeats 4000000 in
set_option maxRecDepth 20000 in
/-- riffle -/
theorem m_X9_riffle (G : aG) {h : aH} {nx m c : Nat} {own : Nat → Nat} {σ : aSg} {th : Int32} (hM : MAt G own h nx m σ th) (hσ : sgOk c σ) (hc9 : c ≤ 512) (x : Int32) : aMet G mX9_riffle 5 0 0 [.ref (m), .int (x)] h nx (mPo G own h nx m cdA (.int (nI 0)) (sRiffle σ x)) := by
  have h4 := hσ.1
  have h5 := hσ.2.1
  have hmn := own_lt hM.1 (b := m) (by rw [hM.2.1]; decide)
  refine aMet_of rfl (Nat.le_of_ble_eq_true rfl) ?_
  show aw G mX9_riffle [] (aRoom 5 0 0) (aEnd G (mPo G own h nx m cdA (.int (nI 0)) (sRiffle σ x)) 0 0) 0 0 h nx 0 [(0, .ref (m)), (1, .int (x))] []
  have w_1M := hM
  obtain ⟨w_1o, w_1m, ⟨w_1s, w_1f⟩, -⟩ := w_1M
  refine aw_aload_n dX9_riffle_0 rfl ?_
  refine aw_ic dX9_riffle_1 ic_0 ?_
  refine aw_putV (v := .int (nI (0))) (ty := .int) (fs' := [.int (nI (0)), .ref (m + 1), .ref (m + 2), .int (nI (σ.2.2)), .long (w_1s)]) 0 w_1f rfl rfl (by decide) (by decide +kernel) rfl rfl rfl (Nat.le_of_ble_eq_true rfl) rfl w_730 dX9_riffle_2 (fun h_1 f_1 o_1 => ?_)
  refine aw_aload_n dX9_riffle_5 rfl ?_
  refine aw_iload_n dX9_riffle_6 rfl ?_
  have hM1 := hM.th hσ.1 hσ.2.1 (Nat.le_refl _) f_1 (fun q hq hqm => (o_1 q (by omega)))
  refine aw_callVR (As := [.int (x)]) (rest := []) (c_X9_isDeck G hM1 hσ hc9 x) kX9_isDeck w_850 f_1 rfl rfl rfl rfl (Nat.le_of_ble_eq_true rfl) dX9_riffle_7 ⟨Nat.le_of_ble_eq_true rfl, Nat.le_of_ble_eq_true rfl⟩ ⟨Nat.le_of_ble_eq_true rfl, Nat.le_of_ble_eq_true rfl⟩ ?_
  refine aw_if_eqB (tgt := 30) dX9_riffle_10 (by decide) (fun hx => ?_) (fun hx => ?_)
  · skip
    refine aw_aload_n dX9_riffle_30 rfl ?_
    refine aw_ic dX9_riffle_31 ic_1 ?_
    refine aw_callVQ (As := [.int (nI (1))]) (rest := []) (c_X9_refuse G f_1) kX9_refuse w_757 f_1 rfl rfl rfl rfl (Nat.le_of_ble_eq_true rfl) dX9_riffle_32 ⟨Nat.le_of_ble_eq_true rfl, Nat.le_of_ble_eq_true rfl⟩ ⟨Nat.le_of_ble_eq_true rfl, Nat.le_of_ble_eq_true rfl⟩ (fun v_1 h_2 n_1 q_1 z_1 => ?_)
    obtain ⟨rfl, rfl, qm, qo⟩ := q_1
    have hs : sRiffle σ x = (.inr xIOB, σ) := by unfold sRiffle; rw [hx]; rfl
    exact aw_ireturn dX9_riffle_35 rfl (mAsk hσ.1 hσ.2.1 hM (by omega) qm (fun q hq hqm => ((qo q (by omega)).trans (o_1 q (by omega)))) hs (mR cdA_iob)) (Nat.le_of_ble_eq_true rfl) (Nat.le_of_ble_eq_true rfl)
  · skip
    obtain ⟨i, dk, a, b, ds, l, ps, sc, hi4, hi, hxi, hdI, hDL, hids, hds4, hdk, hC, hb, hbm, hl2, hl16, hc, ha, hsc, hDD⟩ := hM1.deck hσ hc9 hx
    refine aw_aload_n dX9_riffle_13 rfl ?_
    refine aw_get 1 f_1 rfl rfl (by decide) w_731 rfl dX9_riffle_14 ?_
    refine aw_iload_n dX9_riffle_17 rfl ?_
    have hL_1 := hDL
    obtain ⟨u_11, u_1m, u_1e, u_12, u_13, u_14⟩ := hL_1
    refine aw_top (show (x) = (nI (i)) from hxi) ?_
    refine aw_callVR (As := [.int (nI (i))]) (rest := []) (c_Lget G hDL hids (by omega)) kJx4a65c_get_915e3 w_854 u_12 rfl rfl rfl rfl (Nat.le_of_ble_eq_true rfl) dX9_riffle_18 ⟨Nat.le_of_ble_eq_true rfl, Nat.le_of_ble_eq_true rfl⟩ ⟨Nat.le_of_ble_eq_true rfl, Nat.le_of_ble_eq_true rfl⟩ ?_
    rw [hdk]
    have hC_1 := hC
    obtain ⟨y_1f, y_1g, y_11, y_12, y_13, y_1v⟩ := hC_1
    refine aw_castO y_11 rfl rfl w_765 dX9_riffle_21 ?_
    refine aw_callSR (As := [.ref (dk)]) (rest := []) (c_X9_riffleNow G hC hc hl16 ha (by omega)) kX9_riffleNow w_1171 rfl rfl (Nat.le_of_ble_eq_true rfl) dX9_riffle_24 ⟨Nat.le_of_ble_eq_true rfl, Nat.le_of_ble_eq_true rfl⟩ ⟨Nat.le_of_ble_eq_true rfl, Nat.le_of_ble_eq_true rfl⟩ ?_
    refine aw_goto (tgt := 35) dX9_riffle_27 (by decide) ?_
    have hs : sRiffle σ x = (.inl (some (.int (rifM l l.length))), σ) := by unfold sRiffle; rw [if_pos hx, hdI, rif_same hc ha hl2]
    exact aw_ireturn dX9_riffle_35 rfl (mAsk hσ.1 hσ.2.1 hM (by omega) f_1 (fun q hq hqm => (o_1 q (by omega))) hs rfl) (Nat.le_of_ble_eq_true rfl) (Nat.le_of_ble_eq_true rfl)
set_option maxHeartbeats 4000000 in
set_option maxRecDepth 20000 in
/-- keeps -/
theorem m_X9_keeps (G : aG) {h : aH} {nx m c : Nat} {own : Nat → Nat} {σ : aSg} {th : Int32} (hM : MAt G own h nx m σ th) (hσ : sgOk c σ) (hc9 : c ≤ 512) (x w : Int32) : aMet G mX9_keeps 8 3 34 [.ref (m), .int (x), .int (w)] h nx (mPo G own h nx m cdA (.int (bI false)) (sKeeps σ x w)) := by
  have h4 := hσ.1
  have h5 := hσ.2.1
  have hmn := own_lt hM.1 (b := m) (by rw [hM.2.1]; decide)
  refine aMet_of rfl (Nat.le_of_ble_eq_true rfl) ?_
  show aw G mX9_keeps [] (aRoom 8 3 34) (aEnd G (mPo G own h nx m cdA (.int (bI false)) (sKeeps σ x w)) 3 34) 0 0 h nx 0 [(0, .ref (m)), (1, .int (x)), (2, .int (w))] []
  have w_1M := hM
  obtain ⟨w_1o, w_1m, ⟨w_1s, w_1f⟩, -⟩ := w_1M
  refine aw_aload_n dX9_keeps_0 rfl ?_
  refine aw_aload_n dX9_keeps_1 rfl ?_
  refine aw_iload_n dX9_keeps_2 rfl ?_
  refine aw_callVR (As := [.int (x)]) (rest := [.ref (m)]) (c_X9_isDeck G hM hσ hc9 x) kX9_isDeck w_850 w_1f rfl rfl rfl rfl (Nat.le_of_ble_eq_true rfl) dX9_keeps_3 ⟨Nat.le_of_ble_eq_true rfl, Nat.le_of_ble_eq_true rfl⟩ ⟨Nat.le_of_ble_eq_true rfl, Nat.le_of_ble_eq_true rfl⟩ ?_
  refine aw_if_neB (tgt := 13) dX9_keeps_6 (by decide) (fun hx => ?_) (fun hx => ?_)
  · skip
    refine aw_iload_n dX9_keeps_13 rfl ?_
    refine aw_ic dX9_keeps_14 ic_0 ?_
    refine aw_ic dX9_keeps_15 ic_5 ?_
    refine aw_callSR (As := [.int (w), .int (nI (0)), .int (nI (5))]) (rest := [.ref (m)]) (c_X9_is G w (nI 0) (nI 5)) kX9_is w_754 rfl rfl (Nat.le_of_ble_eq_true rfl) dX9_keeps_16 ⟨Nat.le_of_ble_eq_true rfl, Nat.le_of_ble_eq_true rfl⟩ ⟨Nat.le_of_ble_eq_true rfl, Nat.le_of_ble_eq_true rfl⟩ ?_
    have hz : decide ((nI 0).toInt ≤ w.toInt ∧ w.toInt ≤ (nI 5).toInt) = wIn w 0 5 := by unfold wIn; rw [show (nI 0).toInt = 0 by decide, show (nI 5).toInt = 5 by decide]
    rw [hz]
    refine aw_if_eqB (tgt := 26) dX9_keeps_19 (by decide) (fun hw => ?_) (fun hw => ?_)
    · skip
      refine aw_ic dX9_keeps_26 ic_2 ?_
      refine aw_putV (v := .int (nI (2))) (ty := .int) (fs' := [.int (nI (2)), .ref (m + 1), .ref (m + 2), .int (nI (σ.2.2)), .long (w_1s)]) 0 w_1f rfl rfl (by decide) (by decide +kernel) rfl rfl rfl (Nat.le_of_ble_eq_true rfl) rfl w_730 dX9_keeps_27 (fun h_1 f_1 o_1 => ?_)
      refine aw_aload_n dX9_keeps_30 rfl ?_
      refine aw_get 0 f_1 rfl rfl (by decide) w_730 rfl dX9_keeps_31 ?_
      refine aw_if_neN (tgt := 59) (by omega) dX9_keeps_34 (by decide) (fun cz => ?_) (fun cz => absurd cz (by omega))
      refine aw_ic dX9_keeps_59 ic_0 ?_
      refine aw_top (show nI 0 = bI false from rfl) ?_
      have hs : sKeeps σ x w = (.inr xIAE, σ) := by unfold sKeeps; rw [if_pos hx, hw]; rfl
      exact aw_zreturn dX9_keeps_60 rfl (bI_nar false) (mAsk hσ.1 hσ.2.1 hM (by omega) f_1 (fun q hq hqm => (o_1 q (by omega))) hs (mR cdA_iae)) (Nat.le_of_ble_eq_true rfl) (Nat.le_of_ble_eq_true rfl)
    · skip
      refine aw_ic dX9_keeps_22 ic_0 ?_
      refine aw_goto (tgt := 27) dX9_keeps_23 (by decide) ?_
      refine aw_putV (v := .int (nI (0))) (ty := .int) (fs' := [.int (nI (0)), .ref (m + 1), .ref (m + 2), .int (nI (σ.2.2)), .long (w_1s)]) 0 w_1f rfl rfl (by decide) (by decide +kernel) rfl rfl rfl (Nat.le_of_ble_eq_true rfl) rfl w_730 dX9_keeps_27 (fun h_2 f_2 o_2 => ?_)
      have hM1 := hM.th hσ.1 hσ.2.1 (Nat.le_refl _) f_2 (fun q hq hqm => (o_2 q (by omega)))
      refine aw_aload_n dX9_keeps_30 rfl ?_
      refine aw_get 0 f_2 rfl rfl (by decide) w_730 rfl dX9_keeps_31 ?_
      refine aw_if_neN (tgt := 59) (by omega) dX9_keeps_34 (by decide) (fun cz => absurd cz (by omega)) (fun cz => ?_)
      obtain ⟨i, dk, a, b, ds, l, ps, sc, hi4, hi, hxi, hdI, hDL, hids, hds4, hdk, hC, hb, hbm, hl2, hl16, hc, ha, hsc, hDD⟩ := hM1.deck hσ hc9 hx
      obtain ⟨u, -, hu, hwu⟩ := wIn_nat (a := 0) (b := 5) hw (by decide)
      refine aw_aload_n dX9_keeps_37 rfl ?_
      refine aw_get 1 f_2 rfl rfl (by decide) w_731 rfl dX9_keeps_38 ?_
      refine aw_iload_n dX9_keeps_41 rfl ?_
      have hL_1 := hDL
      obtain ⟨u_11, u_1m, u_1e, u_12, u_13, u_14⟩ := hL_1
      refine aw_top (show (x) = (nI (i)) from hxi) ?_
      refine aw_callVR (As := [.int (nI (i))]) (rest := []) (c_Lget G hDL hids (by omega)) kJx4a65c_get_915e3 w_854 u_12 rfl rfl rfl rfl (Nat.le_of_ble_eq_true rfl) dX9_keeps_42 ⟨Nat.le_of_ble_eq_true rfl, Nat.le_of_ble_eq_true rfl⟩ ⟨Nat.le_of_ble_eq_true rfl, Nat.le_of_ble_eq_true rfl⟩ ?_
      rw [hdk]
      have hC_1 := hC
      obtain ⟨y_1f, y_1g, y_11, y_12, y_13, y_1v⟩ := hC_1
      refine aw_castO y_11 rfl rfl w_765 dX9_keeps_45 ?_
      refine aw_iload_n dX9_keeps_48 rfl ?_
      refine aw_top (show (w) = (nI (u)) from hwu) ?_
      refine aw_callSQ (As := [.ref (dk), .int (nI (u))]) (rest := []) (c_X9_keepsNow G (ps := ps) hC hc hl16 hb hl2 ha hsc hu) kX9_keepsNow w_1074 rfl rfl (Nat.le_of_ble_eq_true rfl) dX9_keeps_49 ⟨Nat.le_of_ble_eq_true rfl, Nat.le_of_ble_eq_true rfl⟩ ⟨Nat.le_of_ble_eq_true rfl, Nat.le_of_ble_eq_true rfl⟩ (fun v_1 h_3 n_1 q_1 z_1 => ?_)
      obtain ⟨rfl, z_1, o_3⟩ := q_1
      have f_3 := (o_3 m (by omega)).trans f_2
      refine aw_if_eqB (tgt := 59) dX9_keeps_52 (by decide) (fun hk => ?_) (fun hk => ?_)
      · skip
        refine aw_ic dX9_keeps_59 ic_0 ?_
        refine aw_top (show (nI (0)) = bI false from rfl) ?_
        have hs : sKeeps σ x w = (.inl (some (.int (bI false))), σ) := by unfold sKeeps; rw [if_pos hx, if_pos hw, hdI, hwu, nI_nat (by omega), hk]
        exact aw_zreturn dX9_keeps_60 rfl (bI_nar false) (mAsk hσ.1 hσ.2.1 hM (by omega) f_3 (fun q hq hqm => ((o_3 q (by omega)).trans (o_2 q (by omega)))) hs rfl) (Nat.le_of_ble_eq_true rfl) (Nat.le_of_ble_eq_true rfl)
      · skip
        refine aw_ic dX9_keeps_55 ic_1 ?_
        refine aw_goto (tgt := 60) dX9_keeps_56 (by decide) ?_
        refine aw_top (show (nI (1)) = bI true from rfl) ?_
        have hs : sKeeps σ x w = (.inl (some (.int (bI true))), σ) := by unfold sKeeps; rw [if_pos hx, if_pos hw, hdI, hwu, nI_nat (by omega), hk]
        exact aw_zreturn dX9_keeps_60 rfl (bI_nar true) (mAsk hσ.1 hσ.2.1 hM (by omega) f_3 (fun q hq hqm => ((o_3 q (by omega)).trans (o_2 q (by omega)))) hs rfl) (Nat.le_of_ble_eq_true rfl) (Nat.le_of_ble_eq_true rfl)
  · skip
    refine aw_ic dX9_keeps_9 ic_1 ?_
    refine aw_goto (tgt := 27) dX9_keeps_10 (by decide) ?_
    refine aw_putV (v := .int (nI (1))) (ty := .int) (fs' := [.int (nI (1)), .ref (m + 1), .ref (m + 2), .int (nI (σ.2.2)), .long (w_1s)]) 0 w_1f rfl rfl (by decide) (by decide +kernel) rfl rfl rfl (Nat.le_of_ble_eq_true rfl) rfl w_730 dX9_keeps_27 (fun h_4 f_4 o_4 => ?_)
    refine aw_aload_n dX9_keeps_30 rfl ?_
    refine aw_get 0 f_4 rfl rfl (by decide) w_730 rfl dX9_keeps_31 ?_
    refine aw_if_neN (tgt := 59) (by omega) dX9_keeps_34 (by decide) (fun cz => ?_) (fun cz => absurd cz (by omega))
    refine aw_ic dX9_keeps_59 ic_0 ?_
    refine aw_top (show nI 0 = bI false from rfl) ?_
    have hs : sKeeps σ x w = (.inr xIOB, σ) := by unfold sKeeps; rw [hx]; rfl
    exact aw_zreturn dX9_keeps_60 rfl (bI_nar false) (mAsk hσ.1 hσ.2.1 hM (by omega) f_4 (fun q hq hqm => (o_4 q (by omega))) hs (mR cdA_iob)) (Nat.le_of_ble_eq_true rfl) (Nat.le_of_ble_eq_true rfl)
set_option maxHeartbeats 4000000 in
set_option maxRecDepth 20000 in
/-- far -/
theorem m_X9_far (G : aG) {h : aH} {nx m c : Nat} {own : Nat → Nat} {σ : aSg} {th : Int32} (hM : MAt G own h nx m σ th) (hσ : sgOk c σ) (hc9 : c ≤ 512) (x : Int32) : aMet G mX9_far 5 0 0 [.ref (m), .int (x)] h nx (mPo G own h nx m cdA (.double FP.dconst0) (sFar σ x)) := by
  have h4 := hσ.1
  have h5 := hσ.2.1
  have hmn := own_lt hM.1 (b := m) (by rw [hM.2.1]; decide)
  refine aMet_of rfl (Nat.le_of_ble_eq_true rfl) ?_
  show aw G mX9_far [] (aRoom 5 0 0) (aEnd G (mPo G own h nx m cdA (.double FP.dconst0) (sFar σ x)) 0 0) 0 0 h nx 0 [(0, .ref (m)), (1, .int (x))] []
  have w_1M := hM
  obtain ⟨w_1o, w_1m, ⟨w_1s, w_1f⟩, -⟩ := w_1M
  refine aw_aload_n dX9_far_0 rfl ?_
  refine aw_aload_n dX9_far_1 rfl ?_
  refine aw_iload_n dX9_far_2 rfl ?_
  refine aw_callVR (As := [.int (x)]) (rest := [.ref (m)]) (c_X9_isDeck G hM hσ hc9 x) kX9_isDeck w_850 w_1f rfl rfl rfl rfl (Nat.le_of_ble_eq_true rfl) dX9_far_3 ⟨Nat.le_of_ble_eq_true rfl, Nat.le_of_ble_eq_true rfl⟩ ⟨Nat.le_of_ble_eq_true rfl, Nat.le_of_ble_eq_true rfl⟩ ?_
  refine aw_if_eqB (tgt := 13) dX9_far_6 (by decide) (fun hx => ?_) (fun hx => ?_)
  · skip
    refine aw_ic dX9_far_13 ic_1 ?_
    refine aw_putV (v := .int (nI (1))) (ty := .int) (fs' := [.int (nI (1)), .ref (m + 1), .ref (m + 2), .int (nI (σ.2.2)), .long (w_1s)]) 0 w_1f rfl rfl (by decide) (by decide +kernel) rfl rfl rfl (Nat.le_of_ble_eq_true rfl) rfl w_730 dX9_far_14 (fun h_1 f_1 o_1 => ?_)
    refine aw_aload_n dX9_far_17 rfl ?_
    refine aw_get 0 f_1 rfl rfl (by decide) w_730 rfl dX9_far_18 ?_
    refine aw_if_leN (tgt := 26) (by omega) dX9_far_21 (by decide) (fun cz => absurd cz (by omega)) (fun cz => ?_)
    refine aw_dconst0 dX9_far_24 ?_
    have hs : sFar σ x = (.inr xIOB, σ) := by unfold sFar; rw [hx]; rfl
    exact aw_dreturn dX9_far_25 rfl (mAsk hσ.1 hσ.2.1 hM (by omega) f_1 (fun q hq hqm => (o_1 q (by omega))) hs (mR cdA_iob)) (Nat.le_of_ble_eq_true rfl) (Nat.le_of_ble_eq_true rfl)
  · skip
    refine aw_ic dX9_far_9 ic_0 ?_
    refine aw_goto (tgt := 14) dX9_far_10 (by decide) ?_
    refine aw_putV (v := .int (nI (0))) (ty := .int) (fs' := [.int (nI (0)), .ref (m + 1), .ref (m + 2), .int (nI (σ.2.2)), .long (w_1s)]) 0 w_1f rfl rfl (by decide) (by decide +kernel) rfl rfl rfl (Nat.le_of_ble_eq_true rfl) rfl w_730 dX9_far_14 (fun h_2 f_2 o_2 => ?_)
    have hM1 := hM.th hσ.1 hσ.2.1 (Nat.le_refl _) f_2 (fun q hq hqm => (o_2 q (by omega)))
    refine aw_aload_n dX9_far_17 rfl ?_
    refine aw_get 0 f_2 rfl rfl (by decide) w_730 rfl dX9_far_18 ?_
    refine aw_if_leN (tgt := 26) (by omega) dX9_far_21 (by decide) (fun cz => ?_) (fun cz => absurd cz (by omega))
    obtain ⟨i, dk, a, b, ds, l, ps, sc, hi4, hi, hxi, hdI, hDL, hids, hds4, hdk, hC, hb, hbm, hl2, hl16, hc, ha, hsc, hDD⟩ := hM1.deck hσ hc9 hx
    refine aw_aload_n dX9_far_26 rfl ?_
    refine aw_get 1 f_2 rfl rfl (by decide) w_731 rfl dX9_far_27 ?_
    refine aw_iload_n dX9_far_30 rfl ?_
    have hL_1 := hDL
    obtain ⟨u_11, u_1m, u_1e, u_12, u_13, u_14⟩ := hL_1
    refine aw_top (show (x) = (nI (i)) from hxi) ?_
    refine aw_callVR (As := [.int (nI (i))]) (rest := []) (c_Lget G hDL hids (by omega)) kJx4a65c_get_915e3 w_854 u_12 rfl rfl rfl rfl (Nat.le_of_ble_eq_true rfl) dX9_far_31 ⟨Nat.le_of_ble_eq_true rfl, Nat.le_of_ble_eq_true rfl⟩ ⟨Nat.le_of_ble_eq_true rfl, Nat.le_of_ble_eq_true rfl⟩ ?_
    rw [hdk]
    have hC_1 := hC
    obtain ⟨y_1f, y_1g, y_11, y_12, y_13, y_1v⟩ := hC_1
    refine aw_castO y_11 rfl rfl w_765 dX9_far_34 ?_
    refine aw_astore_n (L' := [(2, .ref (dk)), (0, .ref (m)), (1, .int (x))]) dX9_far_37 (by decide) rfl ?_
    refine aw_ic dX9_far_38 ic_0 ?_
    refine aw_istore_n (L' := [(3, .int (nI (0))), (2, .ref (dk)), (0, .ref (m)), (1, .int (x))]) dX9_far_39 (by decide) rfl ?_
    refine aw_ic dX9_far_40 ic_0 ?_
    refine aw_istore (L' := [(4, .int (nI (0))), (3, .int (nI (0))), (2, .ref (dk)), (0, .ref (m)), (1, .int (x))]) dX9_far_41 (by decide) rfl ?_
    have K : ∀ (d : Nat) (t k : Nat), l.length - k < d → (k ≤ l.length) → (t = sumA l k) → aw G mX9_far [] (aRoom 5 0 0) (aEnd G (mPo G own h nx m cdA (.double FP.dconst0) (sFar σ x)) 0 0) 0 0 h_2 nx 43 [(0, .ref (m)), (1, .int (x)), (2, .ref (dk)), (3, .int (nI (t))), (4, .int (nI (k)))] [] := by
      intro d
      induction d with
      | zero => intro t k hMd; exact absurd hMd (Nat.not_lt_zero _)
      | succ d ih =>
        intro t k hMd hk ht
        have hsl := sumA_le hc hl16 k hk
        refine aw_iload dX9_far_43 rfl ?_
        refine aw_aload_n dX9_far_45 rfl ?_
        refine aw_callVR (As := []) (rest := [.int (nI (k))]) (c_X7_size G hC hc hl16) kX7_size w_868 y_11 rfl rfl rfl rfl (Nat.le_of_ble_eq_true rfl) dX9_far_46 ⟨Nat.le_of_ble_eq_true rfl, Nat.le_of_ble_eq_true rfl⟩ ⟨Nat.le_of_ble_eq_true rfl, Nat.le_of_ble_eq_true rfl⟩ ?_
        refine aw_icmp_geN (tgt := 74) (by omega) (by omega) dX9_far_49 (by decide) (fun c5 => ?_) (fun c5 => ?_)
        · skip
          have hkl : k = l.length := by omega
          refine aw_iload_n dX9_far_74 rfl ?_
          refine aw_i2d dX9_far_75 ?_
          refine aw_aload_n dX9_far_76 rfl ?_
          refine aw_callVR (As := []) (rest := [.double (FP.i2d ((nI (t))))]) (c_X7_size G hC hc hl16) kX7_size w_868 y_11 rfl rfl rfl rfl (Nat.le_of_ble_eq_true rfl) dX9_far_77 ⟨Nat.le_of_ble_eq_true rfl, Nat.le_of_ble_eq_true rfl⟩ ⟨Nat.le_of_ble_eq_true rfl, Nat.le_of_ble_eq_true rfl⟩ ?_
          refine aw_i2d dX9_far_80 ?_
          refine aw_ddiv dX9_far_81 (n64_of (far_all t (by omega) l.length (by omega) hl2)) ?_
          have hs : sFar σ x = (.inl (some (.double (FP.ddiv (FP.i2d (nI t)) (FP.i2d (nI l.length))))), σ) := by unfold sFar; rw [if_pos hx, hdI, ht, hkl]; rfl
          exact aw_dreturn dX9_far_82 rfl (mAsk hσ.1 hσ.2.1 hM (by omega) f_2 (fun q hq hqm => (o_2 q (by omega))) hs rfl) (Nat.le_of_ble_eq_true rfl) (Nat.le_of_ble_eq_true rfl)
        · skip
          have hck := hc.2 k c5
          refine aw_iload_n dX9_far_52 rfl ?_
          refine aw_iload dX9_far_53 rfl ?_
          refine aw_aload_n dX9_far_55 rfl ?_
          refine aw_getN 0 y_11 rfl rfl (by decide) w_774 rfl dX9_far_56 ?_
          refine aw_iload dX9_far_59 rfl ?_
          refine aw_iaload y_12 (by omega) (by omega) dX9_far_61 ?_
          refine aw_top (show (y_1f k) = (nI (l.getD k 0 / 2)) from (y_1v k c5).1) ?_
          refine aw_isub dX9_far_62 ?_
          refine aw_mabs w_1107 w_658 w_16 w_659 (Nat.le_of_ble_eq_true rfl) (Nat.le_of_ble_eq_true rfl) (Nat.le_of_ble_eq_true rfl) (Nat.le_of_ble_eq_true rfl) dX9_far_63 ?_
          refine aw_top (show (if 0 ≤ (nI (k) - nI (l.getD k 0 / 2)) then (nI (k) - nI (l.getD k 0 / 2)) else 0 - ((nI (k) - nI (l.getD k 0 / 2)))) = (nI (adf k (l.getD k 0 / 2))) from adf_all k (by omega) _ (by omega)) ?_
          refine aw_iaddN dX9_far_66 ?_
          refine aw_istore_n (L' := [(3, .int (nI (t + (adf k (l.getD k 0 / 2))))), (0, .ref (m)), (1, .int (x)), (2, .ref (dk)), (4, .int (nI (k)))]) dX9_far_67 (by decide) rfl ?_
          refine aw_iincN (k := 1) (L' := [(4, .int (nI (k + 1))), (3, .int (nI (t + (adf k (l.getD k 0 / 2))))), (0, .ref (m)), (1, .int (x)), (2, .ref (dk))]) dX9_far_68 (by decide) rfl (by decide) rfl ?_
          refine aw_goto (tgt := 43) dX9_far_71 (by decide) ?_
          refine aw_sub (L' := [(0, .ref (m)), (1, .int (x)), (2, .ref (dk)), (3, .int (nI (t + (adf k (l.getD k 0 / 2))))), (4, .int (nI (k + 1)))]) [2, 3, 4, 1, 0] rfl ?_
          exact ih (t + adf k (l.getD k 0 / 2)) (k + 1) (by omega) (by omega) (by rw [ht]; rfl)
    refine aw_sub (L' := [(0, .ref (m)), (1, .int (x)), (2, .ref (dk)), (3, .int (nI (0))), (4, .int (nI (0)))]) [3, 4, 2, 1, 0] rfl ?_
    exact K (l.length + 1) 0 0 (by omega) (Nat.zero_le _) rfl
set_option maxHeartbeats 4000000 in
set_option maxRecDepth 20000 in
/-- chance -/
theorem m_X9_chance (G : aG) {h : aH} {nx m c : Nat} {own : Nat → Nat} {σ : aSg} {th : Int32} (hM : MAt G own h nx m σ th) (hσ : sgOk c σ) (hc9 : c ≤ 512) (x k : Int32) : aMet G mX9_chance 6 0 0 [.ref (m), .int (x), .int (k)] h nx (mPo G own h nx m cdA (.double FP.dconst0) (sChance σ x k)) := by
  have h4 := hσ.1
  have h5 := hσ.2.1
  have hmn := own_lt hM.1 (b := m) (by rw [hM.2.1]; decide)
  refine aMet_of rfl (Nat.le_of_ble_eq_true rfl) ?_
  show aw G mX9_chance [] (aRoom 6 0 0) (aEnd G (mPo G own h nx m cdA (.double FP.dconst0) (sChance σ x k)) 0 0) 0 0 h nx 0 [(0, .ref (m)), (1, .int (x)), (2, .int (k))] []
  have w_1M := hM
  obtain ⟨w_1o, w_1m, ⟨w_1s, w_1f⟩, -⟩ := w_1M
  refine aw_aload_n dX9_chance_0 rfl ?_
  refine aw_aload_n dX9_chance_1 rfl ?_
  refine aw_iload_n dX9_chance_2 rfl ?_
  refine aw_callVR (As := [.int (x)]) (rest := [.ref (m)]) (c_X9_isDeck G hM hσ hc9 x) kX9_isDeck w_850 w_1f rfl rfl rfl rfl (Nat.le_of_ble_eq_true rfl) dX9_chance_3 ⟨Nat.le_of_ble_eq_true rfl, Nat.le_of_ble_eq_true rfl⟩ ⟨Nat.le_of_ble_eq_true rfl, Nat.le_of_ble_eq_true rfl⟩ ?_
  refine aw_if_neB (tgt := 13) dX9_chance_6 (by decide) (fun hx => ?_) (fun hx => ?_)
  · skip
    refine aw_iload_n dX9_chance_13 rfl ?_
    refine aw_ic dX9_chance_14 ic_0 ?_
    refine aw_bp (v := 12) dX9_chance_15 (by decide) ?_
    refine aw_callSR (As := [.int (k), .int (nI (0)), .int (nI (12))]) (rest := [.ref (m)]) (c_X9_is G k (nI 0) (nI 12)) kX9_is w_754 rfl rfl (Nat.le_of_ble_eq_true rfl) dX9_chance_17 ⟨Nat.le_of_ble_eq_true rfl, Nat.le_of_ble_eq_true rfl⟩ ⟨Nat.le_of_ble_eq_true rfl, Nat.le_of_ble_eq_true rfl⟩ ?_
    have hz : decide ((nI 0).toInt ≤ k.toInt ∧ k.toInt ≤ (nI 12).toInt) = wIn k 0 12 := by unfold wIn; rw [show (nI 0).toInt = 0 by decide, show (nI 12).toInt = 12 by decide]
    rw [hz]
    refine aw_if_eqB (tgt := 27) dX9_chance_20 (by decide) (fun hw => ?_) (fun hw => ?_)
    · skip
      refine aw_ic dX9_chance_27 ic_2 ?_
      refine aw_putV (v := .int (nI (2))) (ty := .int) (fs' := [.int (nI (2)), .ref (m + 1), .ref (m + 2), .int (nI (σ.2.2)), .long (w_1s)]) 0 w_1f rfl rfl (by decide) (by decide +kernel) rfl rfl rfl (Nat.le_of_ble_eq_true rfl) rfl w_730 dX9_chance_28 (fun h_1 f_1 o_1 => ?_)
      refine aw_aload_n dX9_chance_31 rfl ?_
      refine aw_get 0 f_1 rfl rfl (by decide) w_730 rfl dX9_chance_32 ?_
      refine aw_if_leN (tgt := 40) (by omega) dX9_chance_35 (by decide) (fun cz => absurd cz (by omega)) (fun cz => ?_)
      refine aw_dconst0 dX9_chance_38 ?_
      have hs : sChance σ x k = (.inr xIAE, σ) := by unfold sChance; rw [if_pos hx, hw]; rfl
      exact aw_dreturn dX9_chance_39 rfl (mAsk hσ.1 hσ.2.1 hM (by omega) f_1 (fun q hq hqm => (o_1 q (by omega))) hs (mR cdA_iae)) (Nat.le_of_ble_eq_true rfl) (Nat.le_of_ble_eq_true rfl)
    · skip
      refine aw_ic dX9_chance_23 ic_0 ?_
      refine aw_goto (tgt := 28) dX9_chance_24 (by decide) ?_
      refine aw_putV (v := .int (nI (0))) (ty := .int) (fs' := [.int (nI (0)), .ref (m + 1), .ref (m + 2), .int (nI (σ.2.2)), .long (w_1s)]) 0 w_1f rfl rfl (by decide) (by decide +kernel) rfl rfl rfl (Nat.le_of_ble_eq_true rfl) rfl w_730 dX9_chance_28 (fun h_2 f_2 o_2 => ?_)
      have hM1 := hM.th hσ.1 hσ.2.1 (Nat.le_refl _) f_2 (fun q hq hqm => (o_2 q (by omega)))
      refine aw_aload_n dX9_chance_31 rfl ?_
      refine aw_get 0 f_2 rfl rfl (by decide) w_730 rfl dX9_chance_32 ?_
      refine aw_if_leN (tgt := 40) (by omega) dX9_chance_35 (by decide) (fun cz => ?_) (fun cz => absurd cz (by omega))
      obtain ⟨i, dk, a, b, ds, l, ps, sc, hi4, hi, hxi, hdI, hDL, hids, hds4, hdk, hC, hb, hbm, hl2, hl16, hc, ha, hsc, hDD⟩ := hM1.deck hσ hc9 hx
      obtain ⟨u, -, hu, hku⟩ := wIn_nat (a := 0) (b := 12) hw (by omega)
      refine aw_aload_n dX9_chance_40 rfl ?_
      refine aw_get 1 f_2 rfl rfl (by decide) w_731 rfl dX9_chance_41 ?_
      refine aw_iload_n dX9_chance_44 rfl ?_
      have hL_1 := hDL
      obtain ⟨u_11, u_1m, u_1e, u_12, u_13, u_14⟩ := hL_1
      refine aw_top (show (x) = (nI (i)) from hxi) ?_
      refine aw_callVR (As := [.int (nI (i))]) (rest := []) (c_Lget G hDL hids (by omega)) kJx4a65c_get_915e3 w_854 u_12 rfl rfl rfl rfl (Nat.le_of_ble_eq_true rfl) dX9_chance_45 ⟨Nat.le_of_ble_eq_true rfl, Nat.le_of_ble_eq_true rfl⟩ ⟨Nat.le_of_ble_eq_true rfl, Nat.le_of_ble_eq_true rfl⟩ ?_
      rw [hdk]
      have hC_1 := hC
      obtain ⟨y_1f, y_1g, y_11, y_12, y_13, y_1v⟩ := hC_1
      refine aw_castO y_11 rfl rfl w_765 dX9_chance_48 ?_
      refine aw_astore_n (L' := [(3, .ref (dk)), (0, .ref (m)), (1, .int (x)), (2, .int (k))]) dX9_chance_51 (by decide) rfl ?_
      refine aw_ic dX9_chance_52 ic_1 ?_
      refine aw_iload_n dX9_chance_53 rfl ?_
      refine aw_top (show (k) = (nI (u)) from hku) ?_
      refine aw_ishl dX9_chance_54 ?_
      refine aw_top (show ((nI (1)) <<< ((nI (u)) &&& 31)) = (nI (2 ^ u)) from n_shl1 u (by omega)) ?_
      have hp9 : 1 ≤ 2 ^ u ∧ 2 ^ u ≤ 2 ^ 12 := ⟨Nat.one_le_two_pow, Nat.pow_le_pow_right (by decide) hu⟩
      have hr16 := runs_le (l := l) (n := l.length)
      have hr1 : 0 < runs l l.length := by unfold runs; omega
      refine aw_istore (L' := [(4, .int (nI (2 ^ u))), (3, .ref (dk)), (0, .ref (m)), (1, .int (x)), (2, .int (k))]) dX9_chance_55 (by decide) rfl ?_
      refine aw_aload_n dX9_chance_57 rfl ?_
      refine aw_callVR (As := []) (rest := []) (c_X7_runs G hC hc hl16 ha (by omega)) kX7_runs w_1054 y_11 rfl rfl rfl rfl (Nat.le_of_ble_eq_true rfl) dX9_chance_58 ⟨Nat.le_of_ble_eq_true rfl, Nat.le_of_ble_eq_true rfl⟩ ⟨Nat.le_of_ble_eq_true rfl, Nat.le_of_ble_eq_true rfl⟩ ?_
      refine aw_istore (L' := [(5, .int (nI (runs l l.length))), (4, .int (nI (2 ^ u))), (3, .ref (dk)), (0, .ref (m)), (1, .int (x)), (2, .int (k))]) dX9_chance_61 (by decide) rfl ?_
      refine aw_iload dX9_chance_63 rfl ?_
      refine aw_iload dX9_chance_65 rfl ?_
      refine aw_icmp_geN (tgt := 72) (by omega) (by omega) dX9_chance_67 (by decide) (fun c5 => ?_) (fun c5 => ?_)
      · skip
        refine aw_dconst1 dX9_chance_72 ?_
        refine aw_dstore (L' := [(6, .double (FP.dconst1)), (5, .int (nI (runs l l.length))), (4, .int (nI (2 ^ u))), (3, .ref (dk)), (0, .ref (m)), (1, .int (x)), (2, .int (k))]) dX9_chance_73 (by decide) rfl ?_
        refine aw_ic dX9_chance_75 ic_1 ?_
        refine aw_istore (L' := [(8, .int (nI (1))), (6, .double (FP.dconst1)), (5, .int (nI (runs l l.length))), (4, .int (nI (2 ^ u))), (3, .ref (dk)), (0, .ref (m)), (1, .int (x)), (2, .int (k))]) dX9_chance_76 (by decide) rfl ?_
        have K : ∀ (d : Nat) (j : Nat) (z : UInt64), l.length - j < d → (j ≤ l.length) → (z = chF (2 ^ u) (runs l l.length) j) → aw G mX9_chance [] (aRoom 6 0 0) (aEnd G (mPo G own h nx m cdA (.double FP.dconst0) (sChance σ x k)) 0 0) 0 0 h_2 nx 78 [(0, .ref (m)), (1, .int (x)), (2, .int (k)), (3, .ref (dk)), (4, .int (nI (2 ^ u))), (5, .int (nI (runs l l.length))), (6, .double (z)), (8, .int (nI (j + 1)))] [] := by
          intro d
          induction d with
          | zero => intro j z hMd; exact absurd hMd (Nat.not_lt_zero _)
          | succ d ih =>
            intro j z hMd hj hzz
            refine aw_iload dX9_chance_78 rfl ?_
            refine aw_aload_n dX9_chance_80 rfl ?_
            refine aw_callVR (As := []) (rest := [.int (nI (j + 1))]) (c_X7_size G hC hc hl16) kX7_size w_868 y_11 rfl rfl rfl rfl (Nat.le_of_ble_eq_true rfl) dX9_chance_81 ⟨Nat.le_of_ble_eq_true rfl, Nat.le_of_ble_eq_true rfl⟩ ⟨Nat.le_of_ble_eq_true rfl, Nat.le_of_ble_eq_true rfl⟩ ?_
            refine aw_icmp_gtN (tgt := 115) (by omega) (by omega) dX9_chance_84 (by decide) (fun c6 => ?_) (fun c6 => ?_)
            · skip
              have e9 : j = l.length := by omega
              refine aw_dload dX9_chance_115 rfl ?_
              have hs : sChance σ x k = (.inl (some (.double z)), σ) := by unfold sChance; rw [if_pos hx, if_pos hw, hdI, hku, nI_nat (by omega)]; show rD (chV l u) σ = _; unfold chV; rw [if_neg (by omega), hzz, e9]
              exact aw_dreturn dX9_chance_117 rfl (mAsk hσ.1 hσ.2.1 hM (by omega) f_2 (fun q hq hqm => (o_2 q (by omega))) hs rfl) (Nat.le_of_ble_eq_true rfl) (Nat.le_of_ble_eq_true rfl)
            · skip
              have hne := ch_ok hu hr1 (by omega) (show runs l l.length ≤ 2 ^ u by omega) (show j < l.length by omega) hl16
              rw [← hzz] at hne
              refine aw_dload dX9_chance_87 rfl ?_
              refine aw_iload dX9_chance_89 rfl ?_
              refine aw_iload dX9_chance_91 rfl ?_
              refine aw_isubN (by omega) dX9_chance_93 ?_
              refine aw_iload dX9_chance_94 rfl ?_
              refine aw_iaddN dX9_chance_96 ?_
              refine aw_i2d dX9_chance_97 ?_
              refine aw_dmul dX9_chance_98 hne.1 ?_
              refine aw_to ?_ rfl (show ([.double (FP.dmul z (FP.i2d ((nI (((2 ^ u) - (runs l l.length)) + (j + 1))))))] : List Value) = ([.double (ch1 (2 ^ u) (runs l l.length) j z)] : List Value) from rfl) rfl
              refine aw_iload dX9_chance_99 rfl ?_
              refine aw_i2d dX9_chance_101 ?_
              refine aw_ddiv dX9_chance_102 hne.2.1 ?_
              refine aw_to ?_ rfl (show ([.double (FP.ddiv (ch1 (2 ^ u) (runs l l.length) j z) (FP.i2d ((nI (j + 1)))))] : List Value) = ([.double (ch2 (2 ^ u) (runs l l.length) j z)] : List Value) from rfl) rfl
              refine aw_iload dX9_chance_103 rfl ?_
              refine aw_i2d dX9_chance_105 ?_
              refine aw_ddiv dX9_chance_106 hne.2.2 ?_
              refine aw_to ?_ rfl (show ([.double (FP.ddiv (ch2 (2 ^ u) (runs l l.length) j z) (FP.i2d ((nI (2 ^ u)))))] : List Value) = ([.double (ch3 (2 ^ u) (runs l l.length) j z)] : List Value) from rfl) rfl
              refine aw_dstore (L' := [(6, .double (ch3 (2 ^ u) (runs l l.length) j z)), (0, .ref (m)), (1, .int (x)), (2, .int (k)), (3, .ref (dk)), (4, .int (nI (2 ^ u))), (5, .int (nI (runs l l.length))), (8, .int (nI (j + 1)))]) dX9_chance_107 (by decide) rfl ?_
              refine aw_iincN (k := 1) (L' := [(8, .int (nI ((j + 1) + 1))), (6, .double (ch3 (2 ^ u) (runs l l.length) j z)), (0, .ref (m)), (1, .int (x)), (2, .int (k)), (3, .ref (dk)), (4, .int (nI (2 ^ u))), (5, .int (nI (runs l l.length)))]) dX9_chance_109 (by decide) rfl (by decide) rfl ?_
              refine aw_goto (tgt := 78) dX9_chance_112 (by decide) ?_
              refine aw_sub (L' := [(0, .ref (m)), (1, .int (x)), (2, .int (k)), (3, .ref (dk)), (4, .int (nI (2 ^ u))), (5, .int (nI (runs l l.length))), (6, .double (ch3 (2 ^ u) (runs l l.length) j z)), (8, .int (nI ((j + 1) + 1)))]) [2, 3, 4, 5, 6, 7, 1, 0] rfl ?_
              exact ih (j + 1) (ch3 (2 ^ u) (runs l l.length) j z) (by omega) (by omega) (by rw [hzz]; rfl)
        refine aw_sub (L' := [(0, .ref (m)), (1, .int (x)), (2, .int (k)), (3, .ref (dk)), (4, .int (nI (2 ^ u))), (5, .int (nI (runs l l.length))), (6, .double (FP.dconst1)), (8, .int (nI (1)))]) [5, 6, 7, 4, 3, 2, 1, 0] rfl ?_
        exact K (l.length + 1) 0 FP.dconst1 (by omega) (by omega) rfl
      · skip
        refine aw_dconst0 dX9_chance_70 ?_
        have hs : sChance σ x k = (.inl (some (.double FP.dconst0)), σ) := by unfold sChance; rw [if_pos hx, if_pos hw, hdI, hku, nI_nat (by omega)]; show rD (chV l u) σ = _; unfold chV; rw [if_pos (by omega)]
        exact aw_dreturn dX9_chance_71 rfl (mAsk hσ.1 hσ.2.1 hM (by omega) f_2 (fun q hq hqm => (o_2 q (by omega))) hs rfl) (Nat.le_of_ble_eq_true rfl) (Nat.le_of_ble_eq_true rfl)
  · skip
    refine aw_ic dX9_chance_9 ic_1 ?_
    refine aw_goto (tgt := 28) dX9_chance_10 (by decide) ?_
    refine aw_putV (v := .int (nI (1))) (ty := .int) (fs' := [.int (nI (1)), .ref (m + 1), .ref (m + 2), .int (nI (σ.2.2)), .long (w_1s)]) 0 w_1f rfl rfl (by decide) (by decide +kernel) rfl rfl rfl (Nat.le_of_ble_eq_true rfl) rfl w_730 dX9_chance_28 (fun h_3 f_3 o_3 => ?_)
    refine aw_aload_n dX9_chance_31 rfl ?_
    refine aw_get 0 f_3 rfl rfl (by decide) w_730 rfl dX9_chance_32 ?_
    refine aw_if_leN (tgt := 40) (by omega) dX9_chance_35 (by decide) (fun cz => absurd cz (by omega)) (fun cz => ?_)
    refine aw_dconst0 dX9_chance_38 ?_
    have hs : sChance σ x k = (.inr xIOB, σ) := by unfold sChance; rw [hx]; rfl
    exact aw_dreturn dX9_chance_39 rfl (mAsk hσ.1 hσ.2.1 hM (by omega) f_3 (fun q hq hqm => (o_3 q (by omega))) hs (mR cdA_iob)) (Nat.le_of_ble_eq_true rfl) (Nat.le_of_ble_eq_true rfl)
