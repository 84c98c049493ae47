set_option maxHeartbeats 4000000 in
set_option maxRecDepth 20000 in
/-- ShuffleHallModel() -/
theorem c_X9_init (G : aG) {h : aH} {m : Nat} (f1 : h m = some (.inr (8, [.int (nI 0), .null, .null, .int (nI 0), .long 0]))) : aMet G mX9_init 4 2 6 [.ref (m)] h (m + 1) (pQ (fun v h1 n1 => v = none ∧ n1 = m + 3 ∧ h1 m = some (mObj m (nI 0) 0 0) ∧ h1 (m + 1) = some (.inr (1, [.int (nI 0), .ref G.2.2.2, .int (nI 0)])) ∧ h1 (m + 2) = some (.inr (1, [.int (nI 0), .ref G.2.2.2, .int (nI 0)])) ∧ aOff h h1 m 3)) := by
  refine aMet_of rfl (Nat.le_of_ble_eq_true rfl) ?_
  show aw G mX9_init [] (aRoom 4 2 6) (aEnd G (pQ (fun v h1 n1 => v = none ∧ n1 = m + 3 ∧ h1 m = some (mObj m (nI 0) 0 0) ∧ h1 (m + 1) = some (.inr (1, [.int (nI 0), .ref G.2.2.2, .int (nI 0)])) ∧ h1 (m + 2) = some (.inr (1, [.int (nI 0), .ref G.2.2.2, .int (nI 0)])) ∧ aOff h h1 m 3)) 2 6) 0 0 h (m + 1) 0 [(0, .ref (m))] []
  refine aw_aload_n dX9_init_0 rfl ?_
  refine aw_objInit w_700 w_34 w_35 (Nat.le_of_ble_eq_true rfl) (Nat.le_of_ble_eq_true rfl) dX9_init_1 ?_
  refine aw_aload_n dX9_init_4 rfl ?_
  refine aw_newV (ci := 1) (fs := [.int (nI (0)), .null, .int (nI (0))]) rfl w_701 w_702 w_8 (by decide +kernel) (Nat.le_of_ble_eq_true rfl) (Nat.le_of_ble_eq_true rfl) dX9_init_5 (fun h_1 f_1 o_1 => ?_)
  have f_2 := (o_1 m (by omega)).trans f1
  refine aw_nx (show m + 1 + 1 = m + 2 from rfl) ?_
  refine aw_dup dX9_init_8 rfl ?_
  refine aw_callIQ (As := []) (rest := [.ref (m + 1), .ref (m)]) (c_Linit G f_1) kJx4a65c_init_da8c8 w_703 rfl rfl (Nat.le_of_ble_eq_true rfl) dX9_init_9 ⟨Nat.le_of_ble_eq_true rfl, Nat.le_of_ble_eq_true rfl⟩ ⟨Nat.le_of_ble_eq_true rfl, Nat.le_of_ble_eq_true rfl⟩ (fun v_1 h_2 n_1 q_1 z_1 => ?_)
  obtain ⟨rfl, rfl, L1, O1⟩ := q_1
  have f_3 := (O1 (m) (by omega)).trans f_2
  refine aw_putFV (v := .ref (m + 1)) (ty := (.object "java/util/ArrayList")) (fs' := [.int (nI (0)), .ref (m + 1), .null, .int (nI (0)), .long (0)]) 1 f_3 rfl rfl (by decide) (by decide +kernel) rfl rfl rfl (Nat.le_of_ble_eq_true rfl) rfl rfl rfl w_731 dX9_init_12 (fun h_3 f_4 o_2 => ?_)
  have f_5 := (o_2 (m + 1) (by omega)).trans L1
  refine aw_aload_n dX9_init_15 rfl ?_
  refine aw_newV (ci := 1) (fs := [.int (nI (0)), .null, .int (nI (0))]) rfl w_701 w_702 w_8 (by decide +kernel) (Nat.le_of_ble_eq_true rfl) (Nat.le_of_ble_eq_true rfl) dX9_init_16 (fun h_4 f_6 o_3 => ?_)
  have f_7 := (o_3 m (by omega)).trans f_4
  have f_8 := (o_3 (m + 1) (by omega)).trans f_5
  refine aw_nx (show m + 2 + 1 = m + 3 from rfl) ?_
  refine aw_dup dX9_init_19 rfl ?_
  refine aw_callIQ (As := []) (rest := [.ref (m + 2), .ref (m)]) (c_Linit G f_6) kJx4a65c_init_da8c8 w_703 rfl rfl (Nat.le_of_ble_eq_true rfl) dX9_init_20 ⟨Nat.le_of_ble_eq_true rfl, Nat.le_of_ble_eq_true rfl⟩ ⟨Nat.le_of_ble_eq_true rfl, Nat.le_of_ble_eq_true rfl⟩ (fun v_2 h_5 n_2 q_2 z_2 => ?_)
  obtain ⟨rfl, rfl, L2, O2⟩ := q_2
  have f_9 := (O2 (m) (by omega)).trans f_7
  have f_10 := (O2 (m + 1) (by omega)).trans f_8
  refine aw_putFV (v := .ref (m + 2)) (ty := (.object "java/util/ArrayList")) (fs' := [.int (nI (0)), .ref (m + 1), .ref (m + 2), .int (nI (0)), .long (0)]) 2 f_9 rfl rfl (by decide) (by decide +kernel) rfl rfl rfl (Nat.le_of_ble_eq_true rfl) rfl rfl rfl w_732 dX9_init_23 (fun h_6 f_11 o_4 => ?_)
  have f_12 := (o_4 (m + 2) (by omega)).trans L2
  have f_13 := (o_4 (m + 1) (by omega)).trans f_10
  exact aw_return dX9_init_26 rfl ⟨_, rfl, rfl, rfl, f_11, f_13, f_12, fun q hq => ((((((o_4 q (by omega)).trans (O2 q (by omega))).trans (o_3 q (by omega))).trans (o_2 q (by omega))).trans (O1 q (by omega))).trans (o_1 q (by omega)))⟩ (Nat.le_of_ble_eq_true rfl) (Nat.le_of_ble_eq_true rfl)
/-- the new model: nothing is there -/
theorem MAt.new {G : aG} {h : aH} {m nx : Nat} (hn : m + 3 ≤ nx) (hG : G.2.2.2 ≠ m + 1 ∧ G.2.2.2 ≠ m + 2) (e0 : h m = some (mObj m (nI 0) 0 0)) (e1 : h (m + 1) = some (.inr (1, [.int (nI 0), .ref G.2.2.2, .int (nI 0)]))) (e2 : h (m + 2) = some (.inr (1, [.int (nI 0), .ref G.2.2.2, .int (nI 0)]))) : MAt G (fun b => if b = m then 22 else if b = m + 1 then 20 else if b = m + 2 then 21 else 0) h nx m ([], [], 0) (nI 0) := by
  refine ⟨fun b hb => by show (if b = m then 22 else if b = m + 1 then 20 else if b = m + 2 then 21 else 0) = 0; rw [if_neg (by omega), if_neg (by omega), if_neg (by omega)], if_pos rfl, ⟨0, e0⟩, ⟨[], ⟨by show (if m + 1 = m then 22 else if m + 1 = m + 1 then 20 else if m + 1 = m + 2 then 21 else 0) = 20; rw [if_neg (by omega), if_pos rfl], nI 0, G.2.2.2, e1, Ne.symm hG.1, Or.inl ⟨rfl, rfl⟩⟩, rfl, fun i hi => absurd hi (Nat.not_lt_zero _)⟩, [], ⟨by show (if m + 2 = m then 22 else if m + 2 = m + 1 then 20 else if m + 2 = m + 2 then 21 else 0) = 21; rw [if_neg (by omega), if_neg (by omega), if_pos rfl], nI 0, G.2.2.2, e2, Ne.symm hG.2, Or.inl ⟨rfl, rfl⟩⟩, rfl, fun i hi => absurd hi (Nat.not_lt_zero _)⟩
set_option maxHeartbeats 4000000 in
set_option maxRecDepth 20000 in
/-- shuffle -/
theorem m_X9_shuffle (G : aG) {h : aH} {nx m c : Nat} {own : Nat → Nat} {σ : aSg} {th : Int32} (hM : MAt G own h nx m σ th) (hσ : sgOk c σ) (hc9 : c ≤ 512) (x k n t : Int32) : aMet G mX9_shuffle 10 130 1580 [.ref (m), .int (x), .int (k), .int (n), .int (t)] h nx (mPo G own h nx m cdA (.int (nI 0)) (sShuffle σ x k n t)) := by
  have h4 := hσ.1
  have h5 := hσ.2.1
  have hmn := own_lt hM.1 (b := m) (by rw [hM.2.1]; decide)
  refine aMet_of rfl (Nat.le_of_ble_eq_true rfl) ?_
  show aw G mX9_shuffle [] (aRoom 10 130 1580) (aEnd G (mPo G own h nx m cdA (.int (nI 0)) (sShuffle σ x k n t)) 130 1580) 0 0 h nx 0 [(0, .ref (m)), (1, .int (x)), (2, .int (k)), (3, .int (n)), (4, .int (t))] []
  have w_1M := hM
  obtain ⟨w_1o, w_1m, ⟨w_1s, w_1f⟩, -⟩ := w_1M
  refine aw_aload_n dX9_shuffle_0 rfl ?_
  refine aw_ic dX9_shuffle_1 ic_0 ?_
  refine aw_putV (v := .int (nI (0))) (ty := .int) (fs' := [.int (nI (0)), .ref (m + 1), .ref (m + 2), .int (nI (σ.2.2)), .long (w_1s)]) 0 w_1f rfl rfl (by decide) (by decide +kernel) rfl rfl rfl (Nat.le_of_ble_eq_true rfl) rfl w_730 dX9_shuffle_2 (fun h_1 f_1 o_1 => ?_)
  refine aw_aload_n dX9_shuffle_5 rfl ?_
  refine aw_iload_n dX9_shuffle_6 rfl ?_
  have hM1 := hM.th hσ.1 hσ.2.1 (Nat.le_refl _) f_1 (fun q hq hqm => (o_1 q (by omega)))
  have F1 : Fr own own h h_1 nx nx KM := ⟨Nat.le_refl _, fun _ _ => rfl, hM.1, fun b hb => Or.inl (hM.1 b hb), fun q hq hk => (o_1 q (fun z => hk (by rw [z, hM.2.1]; decide)))⟩
  refine aw_callVR (As := [.int (x)]) (rest := []) (c_X9_isDeck G hM1 hσ hc9 x) kX9_isDeck w_850 f_1 rfl rfl rfl rfl (Nat.le_of_ble_eq_true rfl) dX9_shuffle_7 ⟨Nat.le_of_ble_eq_true rfl, Nat.le_of_ble_eq_true rfl⟩ ⟨Nat.le_of_ble_eq_true rfl, Nat.le_of_ble_eq_true rfl⟩ ?_
  refine aw_if_neB (tgt := 19) dX9_shuffle_10 (by decide) (fun hx => ?_) (fun hx => ?_)
  · skip
    obtain ⟨i, dk, a, b, ds, l, ps, sc, hi4, hi, hxi, hdI, hDL, hids, hds4, hdk, hC, hb, hbm, hl2, hl16, hc, ha, hsc, hDD, hset⟩ := hM1.deckS hσ hc9 hx
    refine aw_aload_n dX9_shuffle_19 rfl ?_
    refine aw_get 1 f_1 rfl rfl (by decide) w_731 rfl dX9_shuffle_20 ?_
    refine aw_iload_n dX9_shuffle_23 rfl ?_
    have hL_1 := hDL
    obtain ⟨u_11, u_1m, u_1e, u_12, u_13, u_14⟩ := hL_1
    refine aw_top (show (x) = (nI (i)) from hxi) ?_
    refine aw_callVR (As := [.int (nI (i))]) (rest := []) (c_Lget G hDL hids (by omega)) kJx4a65c_get_915e3 w_854 u_12 rfl rfl rfl rfl (Nat.le_of_ble_eq_true rfl) dX9_shuffle_24 ⟨Nat.le_of_ble_eq_true rfl, Nat.le_of_ble_eq_true rfl⟩ ⟨Nat.le_of_ble_eq_true rfl, Nat.le_of_ble_eq_true rfl⟩ ?_
    rw [hdk]
    have hC_1 := hC
    obtain ⟨y_1f, y_1g, y_11, y_12, y_13, y_1v⟩ := hC_1
    refine aw_castO y_11 rfl rfl w_765 dX9_shuffle_27 ?_
    refine aw_astore (L' := [(5, .ref (dk)), (0, .ref (m)), (1, .int (x)), (2, .int (k)), (3, .int (n)), (4, .int (t))]) dX9_shuffle_30 (by decide) rfl ?_
    refine aw_iload_n dX9_shuffle_32 rfl ?_
    refine aw_iload_n dX9_shuffle_33 rfl ?_
    refine aw_aload dX9_shuffle_34 rfl ?_
    refine aw_callVR (As := []) (rest := [.int (n), .int (k)]) (c_X7_size G hC hc hl16) kX7_size w_868 y_11 rfl rfl rfl rfl (Nat.le_of_ble_eq_true rfl) dX9_shuffle_36 ⟨Nat.le_of_ble_eq_true rfl, Nat.le_of_ble_eq_true rfl⟩ ⟨Nat.le_of_ble_eq_true rfl, Nat.le_of_ble_eq_true rfl⟩ ?_
    refine aw_callSR (As := [.int (k), .int (n), .int (nI (l.length))]) (rest := []) (c_X9_isShuffle G k n ⟨hl2, hl16⟩) kX9_isShuffle w_872 rfl rfl (Nat.le_of_ble_eq_true rfl) dX9_shuffle_39 ⟨Nat.le_of_ble_eq_true rfl, Nat.le_of_ble_eq_true rfl⟩ ⟨Nat.le_of_ble_eq_true rfl, Nat.le_of_ble_eq_true rfl⟩ ?_
    refine aw_if_eqB (tgt := 56) dX9_shuffle_42 (by decide) (fun hO => ?_) (fun hO => ?_)
    · skip
      refine aw_aload_n dX9_shuffle_56 rfl ?_
      refine aw_ic dX9_shuffle_57 ic_2 ?_
      refine aw_callVQ (As := [.int (nI (2))]) (rest := []) (c_X9_refuse G f_1) kX9_refuse w_757 f_1 rfl rfl rfl rfl (Nat.le_of_ble_eq_true rfl) dX9_shuffle_58 ⟨Nat.le_of_ble_eq_true rfl, Nat.le_of_ble_eq_true rfl⟩ ⟨Nat.le_of_ble_eq_true rfl, Nat.le_of_ble_eq_true rfl⟩ (fun v_1 h_2 n_1 q_1 z_1 => ?_)
      obtain ⟨rfl, rfl, qm, qo⟩ := q_1
      have hs : sShuffle σ x k n t = (.inr xIAE, σ) := by unfold sShuffle; rw [if_pos hx, hdI, if_neg (by rw [hO]; decide)]
      exact aw_ireturn dX9_shuffle_61 rfl (mAsk hσ.1 hσ.2.1 hM (by omega) qm (fun q hq hqm => ((qo q (by omega)).trans (o_1 q (by omega)))) hs (mR cdA_iae)) (Nat.le_of_ble_eq_true rfl) (Nat.le_of_ble_eq_true rfl)
    · skip
      refine aw_iload dX9_shuffle_45 rfl ?_
      refine aw_ic dX9_shuffle_47 ic_1 ?_
      refine aw_ldc dX9_shuffle_48 w_875 ?_
      refine aw_top (show (1000000 : Int32) = nI 1000000 by decide) ?_
      refine aw_callSR (As := [.int (t), .int (nI (1)), .int (nI (1000000))]) (rest := []) (c_X9_is G t (nI 1) (nI 1000000)) kX9_is w_754 rfl rfl (Nat.le_of_ble_eq_true rfl) dX9_shuffle_50 ⟨Nat.le_of_ble_eq_true rfl, Nat.le_of_ble_eq_true rfl⟩ ⟨Nat.le_of_ble_eq_true rfl, Nat.le_of_ble_eq_true rfl⟩ ?_
      have hz : decide ((nI 1).toInt ≤ t.toInt ∧ t.toInt ≤ (nI 1000000).toInt) = wIn t 1 1000000 := by unfold wIn; rw [show (nI 1).toInt = 1 by decide, show (nI 1000000).toInt = 1000000 by decide]
      rw [hz]
      refine aw_if_neB (tgt := 62) dX9_shuffle_53 (by decide) (fun hw => ?_) (fun hw => ?_)
      · skip
        obtain ⟨v, hv1, hv, htv⟩ := wIn_nat (a := 1) (b := 1000000) hw (by decide)
        have htN : t.toInt.toNat = v := by rw [htv]; exact nI_nat (by omega)
        obtain ⟨ka, na, hka, hna, hOn, hkN, hnN⟩ := isO_nI hO
        refine aw_aload dX9_shuffle_62 rfl ?_
        refine aw_iload_n dX9_shuffle_64 rfl ?_
        refine aw_top (show (k) = (nI (ka)) from hka) ?_
        refine aw_iload_n dX9_shuffle_65 rfl ?_
        refine aw_top (show (n) = (nI (na)) from hna) ?_
        refine aw_aload dX9_shuffle_66 rfl ?_
        refine aw_callVR (As := []) (rest := [.int (nI (na)), .int (nI (ka)), .ref (dk)]) (c_X7_size G hC hc hl16) kX7_size w_868 y_11 rfl rfl rfl rfl (Nat.le_of_ble_eq_true rfl) dX9_shuffle_68 ⟨Nat.le_of_ble_eq_true rfl, Nat.le_of_ble_eq_true rfl⟩ ⟨Nat.le_of_ble_eq_true rfl, Nat.le_of_ble_eq_true rfl⟩ ?_
        refine aw_callSQ (As := [.int (nI (ka)), .int (nI (na)), .int (nI (l.length))]) (rest := [.ref (dk)]) (c_X9_way G (k := ka) (m := na) ⟨hl2, hl16⟩ hOn) kX9_way w_876 rfl rfl (Nat.le_of_ble_eq_true rfl) dX9_shuffle_71 ⟨Nat.le_of_ble_eq_true rfl, Nat.le_of_ble_eq_true rfl⟩ ⟨Nat.le_of_ble_eq_true rfl, Nat.le_of_ble_eq_true rfl⟩ (fun v_2 h_3 n_2 q_2 z_2 => ?_)
        obtain ⟨rfl, rfl, hW, oW⟩ := q_2
        have hlc := lay_cOk hOn
        have hW0 := hW
        obtain ⟨y_2f, y_2g, y_21, y_22, y_23, y_2v⟩ := hW0
        refine aw_iload dX9_shuffle_74 rfl ?_
        refine aw_top (show (t) = (nI (v)) from htv) ?_
        refine aw_callVQ (As := [.int (nI (v))]) (rest := [.ref (dk)]) (c_X8_often G hW hlc hl16 (by omega) (t := v) (by omega)) kX8_often w_897 y_21 rfl rfl rfl rfl (Nat.le_of_ble_eq_true rfl) dX9_shuffle_76 ⟨Nat.le_of_ble_eq_true rfl, Nat.le_of_ble_eq_true rfl⟩ ⟨Nat.le_of_ble_eq_true rfl, Nat.le_of_ble_eq_true rfl⟩ (fun v_3 h_4 n_3 q_3 z_3 => ?_)
        obtain ⟨wa, rfl, hwa, hwa3, hWf, oF⟩ := q_3
        have oFF : ∀ b, b < nx → h_4 b = h_1 b := fun b hb => (oF b (by omega)).trans (oW b (by omega))
        have hD2 := hDD.keep (own1 := own) (h1 := h_4) (fun b hb => ⟨oFF b (own_lt hM.1 (by omega)), rfl⟩)
        have hDc := hD2
        obtain ⟨-, -, -, a9, b9, as9, bs9, hC9, -⟩ := hDc
        have hC9 := hC9.o
        have ho2 : ∀ b, n_3 ≤ b → own b = 0 := fun b hb => hM.1 b (by omega)
        refine aw_callVQ (As := [.ref (wa)]) (rest := []) (c_X7_go G hD2 ho2 hc hl16 hWf (oft20_cOk hlc) (by omega) (fun b g1 g2 => hM.1 b (by omega)) hi4) kX7_go w_907 hC9 rfl rfl rfl rfl (Nat.le_of_ble_eq_true rfl) dX9_shuffle_79 ⟨Nat.le_of_ble_eq_true rfl, Nat.le_of_ble_eq_true rfl⟩ ⟨Nat.le_of_ble_eq_true rfl, Nat.le_of_ble_eq_true rfl⟩ (fun v_4 h_5 n_4 q_4 z_4 => ?_)
        obtain ⟨rfl, own1, FG, hGo⟩ := q_4
        have FA : Fr own own h_1 h_4 nx n_3 (KDk i) := Fr.ask hM.1 (by omega) oFF
        have FB := FA.tr FG
        have hpd : putD0 (l, ps, sc) (oft 20 (idL l.length) (layL ka na l.length) v) = putD (l, ps, sc) (layL ka na l.length) v := putD_0 (d := (l, ps, sc)) hc hlc
        rw [hpd] at hGo
        have hGc := hGo
        obtain ⟨-, -, -, a8, b8, as8, bs8, hC8, -⟩ := hGc
        have hC8b := hC8
        obtain ⟨y_3f, y_3g, y_31, y_32, y_33, y_3v⟩ := hC8b
        have hrc : cOk l.length (oft 20 l (layL ka na l.length) v) := oft_cOk hc hlc
        have hrl := hrc.1
        have hdl : (putD (l, ps, sc) (layL ka na l.length) v).1.length = l.length := hrl
        have h0c := hrc.lt (i := 0) (by omega)
        refine aw_aload dX9_shuffle_82 rfl ?_
        refine aw_getN 0 y_31 rfl rfl (by decide) w_774 rfl dX9_shuffle_84 ?_
        refine aw_ic dX9_shuffle_87 ic_0 ?_
        refine aw_iaload y_32 (by omega) (by omega) dX9_shuffle_88 ?_
        refine aw_top (show (y_3f 0) = (nI (((oft 20 l (layL ka na l.length) v)).getD 0 0 / 2)) from (y_3v 0 (by omega)).1) ?_
        have hM2 := hset own1 _ _ _ FB hGo
        have hs : sShuffle σ x k n t = (.inl (some (.int (nI (((oft 20 l (layL ka na l.length) v)).getD 0 0 / 2)))), setD σ x (putD (l, ps, sc) (layL ka na l.length) v)) := by unfold sShuffle; rw [if_pos hx, hdI, if_pos hO, if_pos hw, hkN, hnN, htN]; rfl
        exact aw_ireturn dX9_shuffle_89 rfl (mDid (F1.tr (FB.mono (fun j hj => ⟨by unfold KDk at hj; omega, by unfold KDk at hj; omega⟩))) hM2 hs rfl) (Nat.le_of_ble_eq_true rfl) (Nat.le_of_ble_eq_true rfl)
      · skip
        refine aw_aload_n dX9_shuffle_56 rfl ?_
        refine aw_ic dX9_shuffle_57 ic_2 ?_
        refine aw_callVQ (As := [.int (nI (2))]) (rest := []) (c_X9_refuse G f_1) kX9_refuse w_757 f_1 rfl rfl rfl rfl (Nat.le_of_ble_eq_true rfl) dX9_shuffle_58 ⟨Nat.le_of_ble_eq_true rfl, Nat.le_of_ble_eq_true rfl⟩ ⟨Nat.le_of_ble_eq_true rfl, Nat.le_of_ble_eq_true rfl⟩ (fun v_5 h_6 n_5 q_5 z_5 => ?_)
        obtain ⟨rfl, rfl, qm, qo⟩ := q_5
        have hs : sShuffle σ x k n t = (.inr xIAE, σ) := by unfold sShuffle; rw [if_pos hx, hdI, if_pos hO, if_neg (by rw [hw]; decide)]
        exact aw_ireturn dX9_shuffle_61 rfl (mAsk hσ.1 hσ.2.1 hM (by omega) qm (fun q hq hqm => ((qo q (by omega)).trans (o_1 q (by omega)))) hs (mR cdA_iae)) (Nat.le_of_ble_eq_true rfl) (Nat.le_of_ble_eq_true rfl)
  · skip
    refine aw_aload_n dX9_shuffle_13 rfl ?_
    refine aw_ic dX9_shuffle_14 ic_1 ?_
    refine aw_callVQ (As := [.int (nI (1))]) (rest := []) (c_X9_refuse G f_1) kX9_refuse w_757 f_1 rfl rfl rfl rfl (Nat.le_of_ble_eq_true rfl) dX9_shuffle_15 ⟨Nat.le_of_ble_eq_true rfl, Nat.le_of_ble_eq_true rfl⟩ ⟨Nat.le_of_ble_eq_true rfl, Nat.le_of_ble_eq_true rfl⟩ (fun v_6 h_7 n_6 q_6 z_6 => ?_)
    obtain ⟨rfl, rfl, qm, qo⟩ := q_6
    have hs : sShuffle σ x k n t = (.inr xIOB, σ) := by unfold sShuffle; rw [hx]; rfl
    exact aw_ireturn dX9_shuffle_18 rfl (mAsk hσ.1 hσ.2.1 hM (by omega) qm (fun q hq hqm => ((qo q (by omega)).trans (o_1 q (by omega)))) hs (mR cdA_iob)) (Nat.le_of_ble_eq_true rfl) (Nat.le_of_ble_eq_true rfl)
set_option maxHeartbeats 4000000 in
set_option maxRecDepth 20000 in
/-- perform -/
theorem m_X9_perform (G : aG) {h : aH} {nx m c : Nat} {own : Nat → Nat} {σ : aSg} {th : Int32} (hM : MAt G own h nx m σ th) (hσ : sgOk c σ) (hc9 : c ≤ 512) (x y t : Int32) : aMet G mX9_perform 10 180 2140 [.ref (m), .int (x), .int (y), .int (t)] h nx (mPo G own h nx m cdA (.int (nI 0)) (sPerform σ x y t)) := by
  have h4 := hσ.1
  have h5 := hσ.2.1
  have hmn := own_lt hM.1 (b := m) (by rw [hM.2.1]; decide)
  refine aMet_of rfl (Nat.le_of_ble_eq_true rfl) ?_
  show aw G mX9_perform [] (aRoom 10 180 2140) (aEnd G (mPo G own h nx m cdA (.int (nI 0)) (sPerform σ x y t)) 180 2140) 0 0 h nx 0 [(0, .ref (m)), (1, .int (x)), (2, .int (y)), (3, .int (t))] []
  have w_1M := hM
  obtain ⟨w_1o, w_1m, ⟨w_1s, w_1f⟩, -⟩ := w_1M
  refine aw_aload_n dX9_perform_0 rfl ?_
  refine aw_ic dX9_perform_1 ic_0 ?_
  refine aw_putV (v := .int (nI (0))) (ty := .int) (fs' := [.int (nI (0)), .ref (m + 1), .ref (m + 2), .int (nI (σ.2.2)), .long (w_1s)]) 0 w_1f rfl rfl (by decide) (by decide +kernel) rfl rfl rfl (Nat.le_of_ble_eq_true rfl) rfl w_730 dX9_perform_2 (fun h_1 f_1 o_1 => ?_)
  refine aw_aload_n dX9_perform_5 rfl ?_
  refine aw_iload_n dX9_perform_6 rfl ?_
  have hM1 := hM.th hσ.1 hσ.2.1 (Nat.le_refl _) f_1 (fun q hq hqm => (o_1 q (by omega)))
  have F1 : Fr own own h h_1 nx nx KM := ⟨Nat.le_refl _, fun _ _ => rfl, hM.1, fun b hb => Or.inl (hM.1 b hb), fun q hq hk => (o_1 q (fun z => hk (by rw [z, hM.2.1]; decide)))⟩
  refine aw_callVR (As := [.int (x)]) (rest := []) (c_X9_isDeck G hM1 hσ hc9 x) kX9_isDeck w_850 f_1 rfl rfl rfl rfl (Nat.le_of_ble_eq_true rfl) dX9_perform_7 ⟨Nat.le_of_ble_eq_true rfl, Nat.le_of_ble_eq_true rfl⟩ ⟨Nat.le_of_ble_eq_true rfl, Nat.le_of_ble_eq_true rfl⟩ ?_
  refine aw_if_eqB (tgt := 21) dX9_perform_10 (by decide) (fun hx => ?_) (fun hx => ?_)
  · skip
    refine aw_aload_n dX9_perform_21 rfl ?_
    refine aw_ic dX9_perform_22 ic_1 ?_
    refine aw_callVQ (As := [.int (nI (1))]) (rest := []) (c_X9_refuse G f_1) kX9_refuse w_757 f_1 rfl rfl rfl rfl (Nat.le_of_ble_eq_true rfl) dX9_perform_23 ⟨Nat.le_of_ble_eq_true rfl, Nat.le_of_ble_eq_true rfl⟩ ⟨Nat.le_of_ble_eq_true rfl, Nat.le_of_ble_eq_true rfl⟩ (fun v_1 h_2 n_1 q_1 z_1 => ?_)
    obtain ⟨rfl, rfl, qm, qo⟩ := q_1
    have hs : sPerform σ x y t = (.inr xIOB, σ) := by unfold sPerform; rw [hx]; rfl
    exact aw_ireturn dX9_perform_26 rfl (mAsk hσ.1 hσ.2.1 hM (by omega) qm (fun q hq hqm => ((qo q (by omega)).trans (o_1 q (by omega)))) hs (mR cdA_iob)) (Nat.le_of_ble_eq_true rfl) (Nat.le_of_ble_eq_true rfl)
  · skip
    refine aw_aload_n dX9_perform_13 rfl ?_
    refine aw_iload_n dX9_perform_14 rfl ?_
    refine aw_callVR (As := [.int (y)]) (rest := []) (c_X9_isSequence G hM1 hσ hc9 y) kX9_isSequence w_956 f_1 rfl rfl rfl rfl (Nat.le_of_ble_eq_true rfl) dX9_perform_15 ⟨Nat.le_of_ble_eq_true rfl, Nat.le_of_ble_eq_true rfl⟩ ⟨Nat.le_of_ble_eq_true rfl, Nat.le_of_ble_eq_true rfl⟩ ?_
    refine aw_if_neB (tgt := 27) dX9_perform_18 (by decide) (fun hy => ?_) (fun hy => ?_)
    · skip
      refine aw_iload_n dX9_perform_27 rfl ?_
      refine aw_ic dX9_perform_28 ic_1 ?_
      refine aw_ldc dX9_perform_29 w_875 ?_
      refine aw_top (show (1000000 : Int32) = nI 1000000 by decide) ?_
      refine aw_callSR (As := [.int (t), .int (nI (1)), .int (nI (1000000))]) (rest := []) (c_X9_is G t (nI 1) (nI 1000000)) kX9_is w_754 rfl rfl (Nat.le_of_ble_eq_true rfl) dX9_perform_31 ⟨Nat.le_of_ble_eq_true rfl, Nat.le_of_ble_eq_true rfl⟩ ⟨Nat.le_of_ble_eq_true rfl, Nat.le_of_ble_eq_true rfl⟩ ?_
      have hz : decide ((nI 1).toInt ≤ t.toInt ∧ t.toInt ≤ (nI 1000000).toInt) = wIn t 1 1000000 := by unfold wIn; rw [show (nI 1).toInt = 1 by decide, show (nI 1000000).toInt = 1000000 by decide]
      rw [hz]
      refine aw_if_neB (tgt := 43) dX9_perform_34 (by decide) (fun hw => ?_) (fun hw => ?_)
      · skip
        obtain ⟨v, hv1, hv, htv⟩ := wIn_nat (a := 1) (b := 1000000) hw (by decide)
        have htN : t.toInt.toNat = v := by rw [htv]; exact nI_nat (by omega)
        obtain ⟨i, dk, a, b, ds, l, ps, sc, hi4, hi, hxi, hdI, hDL, hids, hds4, hdk, hC, hb, hbm, hl2, hl16, hc, ha, hsc, hDD, hset⟩ := hM1.deckS hσ hc9 hx
        refine aw_aload_n dX9_perform_43 rfl ?_
        refine aw_get 1 f_1 rfl rfl (by decide) w_731 rfl dX9_perform_44 ?_
        refine aw_iload_n dX9_perform_47 rfl ?_
        have hL_1 := hDL
        obtain ⟨u_11, u_1m, u_1e, u_12, u_13, u_14⟩ := hL_1
        refine aw_top (show (x) = (nI (i)) from hxi) ?_
        refine aw_callVR (As := [.int (nI (i))]) (rest := []) (c_Lget G hDL hids (by omega)) kJx4a65c_get_915e3 w_854 u_12 rfl rfl rfl rfl (Nat.le_of_ble_eq_true rfl) dX9_perform_48 ⟨Nat.le_of_ble_eq_true rfl, Nat.le_of_ble_eq_true rfl⟩ ⟨Nat.le_of_ble_eq_true rfl, Nat.le_of_ble_eq_true rfl⟩ ?_
        rw [hdk]
        have hC_1 := hC
        obtain ⟨y_1f, y_1g, y_11, y_12, y_13, y_1v⟩ := hC_1
        refine aw_castO y_11 rfl rfl w_765 dX9_perform_51 ?_
        refine aw_astore (L' := [(4, .ref (dk)), (0, .ref (m)), (1, .int (x)), (2, .int (y)), (3, .int (t))]) dX9_perform_54 (by decide) rfl ?_
        refine aw_aload_n dX9_perform_56 rfl ?_
        refine aw_iload_n dX9_perform_57 rfl ?_
        refine aw_aload dX9_perform_58 rfl ?_
        refine aw_callVR (As := []) (rest := [.int (y), .ref (m)]) (c_X7_size G hC hc hl16) kX7_size w_868 y_11 rfl rfl rfl rfl (Nat.le_of_ble_eq_true rfl) dX9_perform_60 ⟨Nat.le_of_ble_eq_true rfl, Nat.le_of_ble_eq_true rfl⟩ ⟨Nat.le_of_ble_eq_true rfl, Nat.le_of_ble_eq_true rfl⟩ ?_
        refine aw_callVQ (As := [.int (y), .int (nI (l.length))]) (rest := []) (c_X9_wayOf G hM1 hσ hc9 hy ⟨hl2, hl16⟩) kX9_wayOf w_964 f_1 rfl rfl rfl rfl (Nat.le_of_ble_eq_true rfl) dX9_perform_63 ⟨Nat.le_of_ble_eq_true rfl, Nat.le_of_ble_eq_true rfl⟩ ⟨Nat.le_of_ble_eq_true rfl, Nat.le_of_ble_eq_true rfl⟩ (fun v_2 h_3 n_2 q_2 z_2 => ?_)
        obtain ⟨hle, hoW, ⟨hsq, rfl⟩ | ⟨zz, wy, hsq, rfl, hwy, hwy3, hW⟩⟩ := q_2
        · skip
          have fmw := (hoW m hmn).trans f_1
          refine aw_astoreN (L' := [(5, .null), (4, .ref (dk)), (0, .ref (m)), (1, .int (x)), (2, .int (y)), (3, .int (t))]) dX9_perform_66 (by decide) rfl ?_
          refine aw_aloadN dX9_perform_68 rfl ?_
          refine aw_ifnonnullN dX9_perform_70 ?_
          refine aw_aload_n dX9_perform_73 rfl ?_
          refine aw_ic dX9_perform_74 ic_3 ?_
          refine aw_callVQ (As := [.int (nI (3))]) (rest := []) (c_X9_refuse G fmw) kX9_refuse w_757 fmw rfl rfl rfl rfl (Nat.le_of_ble_eq_true rfl) dX9_perform_75 ⟨Nat.le_of_ble_eq_true rfl, Nat.le_of_ble_eq_true rfl⟩ ⟨Nat.le_of_ble_eq_true rfl, Nat.le_of_ble_eq_true rfl⟩ (fun v_3 h_4 n_3 q_3 z_3 => ?_)
          obtain ⟨rfl, hn9, qm, qo⟩ := q_3
          have hn9 := hn9.symm
          subst hn9
          have hs : sPerform σ x y t = (.inr xISE, σ) := by unfold sPerform; rw [if_pos hx, if_pos hy, if_pos hw, hdI, hsq]
          exact aw_ireturn dX9_perform_78 rfl (mAsk hσ.1 hσ.2.1 hM (by omega) qm (fun q hq hqm => (((qo q (by omega)).trans (hoW q (by omega))).trans (o_1 q (by omega)))) hs (mR cdA_ise)) (Nat.le_of_ble_eq_true rfl) (Nat.le_of_ble_eq_true rfl)
        · skip
          have hz := seqL_cOk hsq
          have hW0 := hW
          obtain ⟨y_2f, y_2g, y_21, y_22, y_23, y_2v⟩ := hW0
          refine aw_astore (L' := [(5, .ref (wy)), (4, .ref (dk)), (0, .ref (m)), (1, .int (x)), (2, .int (y)), (3, .int (t))]) dX9_perform_66 (by decide) rfl ?_
          refine aw_aload dX9_perform_68 rfl ?_
          refine aw_ifnonnull (tgt := 79) dX9_perform_70 (by decide) ?_
          refine aw_aload dX9_perform_79 rfl ?_
          refine aw_aload dX9_perform_81 rfl ?_
          refine aw_iload_n dX9_perform_83 rfl ?_
          refine aw_top (show (t) = (nI (v)) from htv) ?_
          refine aw_callVQ (As := [.int (nI (v))]) (rest := [.ref (dk)]) (c_X8_often G hW hz hl16 (by omega) (t := v) (by omega)) kX8_often w_897 y_21 rfl rfl rfl rfl (Nat.le_of_ble_eq_true rfl) dX9_perform_84 ⟨Nat.le_of_ble_eq_true rfl, Nat.le_of_ble_eq_true rfl⟩ ⟨Nat.le_of_ble_eq_true rfl, Nat.le_of_ble_eq_true rfl⟩ (fun v_4 h_5 n_4 q_4 z_4 => ?_)
          obtain ⟨wa, rfl, hwa, hwa3, hWf, oF⟩ := q_4
          have oFF : ∀ b, b < nx → h_5 b = h_1 b := fun b hb => (oF b (by omega)).trans (hoW b hb)
          have hD2 := hDD.keep (own1 := own) (h1 := h_5) (fun b hb => ⟨oFF b (own_lt hM.1 (by omega)), rfl⟩)
          have hDc := hD2
          obtain ⟨-, -, -, a9, b9, as9, bs9, hC9, -⟩ := hDc
          have hC9 := hC9.o
          have ho2 : ∀ b, n_4 ≤ b → own b = 0 := fun b hb => hM.1 b (by omega)
          refine aw_callVQ (As := [.ref (wa)]) (rest := []) (c_X7_go G hD2 ho2 hc hl16 hWf (oft20_cOk hz) (by omega) (fun b g1 g2 => hM.1 b (by omega)) hi4) kX7_go w_907 hC9 rfl rfl rfl rfl (Nat.le_of_ble_eq_true rfl) dX9_perform_87 ⟨Nat.le_of_ble_eq_true rfl, Nat.le_of_ble_eq_true rfl⟩ ⟨Nat.le_of_ble_eq_true rfl, Nat.le_of_ble_eq_true rfl⟩ (fun v_5 h_6 n_5 q_5 z_5 => ?_)
          obtain ⟨rfl, own1, FG, hGo⟩ := q_5
          have FA : Fr own own h_1 h_5 nx n_4 (KDk i) := Fr.ask hM.1 (by omega) oFF
          have FB := FA.tr FG
          have hpd : putD0 (l, ps, sc) (oft 20 (idL l.length) zz v) = putD (l, ps, sc) zz v := putD_0 (d := (l, ps, sc)) hc hz
          rw [hpd] at hGo
          have hGc := hGo
          obtain ⟨-, -, -, a8, b8, as8, bs8, hC8, -⟩ := hGc
          have hC8b := hC8
          obtain ⟨y_3f, y_3g, y_31, y_32, y_33, y_3v⟩ := hC8b
          have hrc : cOk l.length (oft 20 l zz v) := oft_cOk hc hz
          have hrl := hrc.1
          have hdl : (putD (l, ps, sc) zz v).1.length = l.length := hrl
          have h0c := hrc.lt (i := 0) (by omega)
          refine aw_aload dX9_perform_90 rfl ?_
          refine aw_getN 0 y_31 rfl rfl (by decide) w_774 rfl dX9_perform_92 ?_
          refine aw_ic dX9_perform_95 ic_0 ?_
          refine aw_iaload y_32 (by omega) (by omega) dX9_perform_96 ?_
          refine aw_top (show (y_3f 0) = (nI (((oft 20 l zz v)).getD 0 0 / 2)) from (y_3v 0 (by omega)).1) ?_
          have hM2 := hset own1 _ _ _ FB hGo
          have hs : sPerform σ x y t = (.inl (some (.int (nI (((oft 20 l zz v)).getD 0 0 / 2)))), setD σ x (putD (l, ps, sc) zz v)) := by unfold sPerform; rw [if_pos hx, if_pos hy, if_pos hw, hdI, hsq, htN]; rfl
          exact aw_ireturn dX9_perform_97 rfl (mDid (F1.tr (FB.mono (fun j hj => ⟨by unfold KDk at hj; omega, by unfold KDk at hj; omega⟩))) hM2 hs rfl) (Nat.le_of_ble_eq_true rfl) (Nat.le_of_ble_eq_true rfl)
      · skip
        refine aw_aload_n dX9_perform_37 rfl ?_
        refine aw_ic dX9_perform_38 ic_2 ?_
        refine aw_callVQ (As := [.int (nI (2))]) (rest := []) (c_X9_refuse G f_1) kX9_refuse w_757 f_1 rfl rfl rfl rfl (Nat.le_of_ble_eq_true rfl) dX9_perform_39 ⟨Nat.le_of_ble_eq_true rfl, Nat.le_of_ble_eq_true rfl⟩ ⟨Nat.le_of_ble_eq_true rfl, Nat.le_of_ble_eq_true rfl⟩ (fun v_6 h_7 n_6 q_6 z_6 => ?_)
        obtain ⟨rfl, rfl, qm, qo⟩ := q_6
        have hs : sPerform σ x y t = (.inr xIAE, σ) := by unfold sPerform; rw [if_pos hx, if_pos hy, if_neg (by rw [hw]; decide)]
        exact aw_ireturn dX9_perform_42 rfl (mAsk hσ.1 hσ.2.1 hM (by omega) qm (fun q hq hqm => ((qo q (by omega)).trans (o_1 q (by omega)))) hs (mR cdA_iae)) (Nat.le_of_ble_eq_true rfl) (Nat.le_of_ble_eq_true rfl)
    · skip
      refine aw_aload_n dX9_perform_21 rfl ?_
      refine aw_ic dX9_perform_22 ic_1 ?_
      refine aw_callVQ (As := [.int (nI (1))]) (rest := []) (c_X9_refuse G f_1) kX9_refuse w_757 f_1 rfl rfl rfl rfl (Nat.le_of_ble_eq_true rfl) dX9_perform_23 ⟨Nat.le_of_ble_eq_true rfl, Nat.le_of_ble_eq_true rfl⟩ ⟨Nat.le_of_ble_eq_true rfl, Nat.le_of_ble_eq_true rfl⟩ (fun v_7 h_8 n_7 q_7 z_7 => ?_)
      obtain ⟨rfl, rfl, qm, qo⟩ := q_7
      have hs : sPerform σ x y t = (.inr xIOB, σ) := by unfold sPerform; rw [if_pos hx, if_neg (by rw [hy]; decide)]
      exact aw_ireturn dX9_perform_26 rfl (mAsk hσ.1 hσ.2.1 hM (by omega) qm (fun q hq hqm => ((qo q (by omega)).trans (o_1 q (by omega)))) hs (mR cdA_iob)) (Nat.le_of_ble_eq_true rfl) (Nat.le_of_ble_eq_true rfl)
set_option maxHeartbeats 4000000 in
set_option maxRecDepth 20000 in
/-- undo -/
theorem m_X9_undo (G : aG) {h : aH} {nx m c : Nat} {own : Nat → Nat} {σ : aSg} {th : Int32} (hM : MAt G own h nx m σ th) (hσ : sgOk c σ) (hc9 : c ≤ 512) (x : Int32) : aMet G mX9_undo 6 0 0 [.ref (m), .int (x)] h nx (mPo G own h nx m cdA (.int (nI 0)) (sUndo σ x)) := by
  have h4 := hσ.1
  have h5 := hσ.2.1
  have hmn := own_lt hM.1 (b := m) (by rw [hM.2.1]; decide)
  refine aMet_of rfl (Nat.le_of_ble_eq_true rfl) ?_
  show aw G mX9_undo [] (aRoom 6 0 0) (aEnd G (mPo G own h nx m cdA (.int (nI 0)) (sUndo σ x)) 0 0) 0 0 h nx 0 [(0, .ref (m)), (1, .int (x))] []
  have w_1M := hM
  obtain ⟨w_1o, w_1m, ⟨w_1s, w_1f⟩, -⟩ := w_1M
  refine aw_aload_n dX9_undo_0 rfl ?_
  refine aw_ic dX9_undo_1 ic_0 ?_
  refine aw_putV (v := .int (nI (0))) (ty := .int) (fs' := [.int (nI (0)), .ref (m + 1), .ref (m + 2), .int (nI (σ.2.2)), .long (w_1s)]) 0 w_1f rfl rfl (by decide) (by decide +kernel) rfl rfl rfl (Nat.le_of_ble_eq_true rfl) rfl w_730 dX9_undo_2 (fun h_1 f_1 o_1 => ?_)
  refine aw_aload_n dX9_undo_5 rfl ?_
  refine aw_iload_n dX9_undo_6 rfl ?_
  have hM1 := hM.th hσ.1 hσ.2.1 (Nat.le_refl _) f_1 (fun q hq hqm => (o_1 q (by omega)))
  have F1 : Fr own own h h_1 nx nx KM := ⟨Nat.le_refl _, fun _ _ => rfl, hM.1, fun b hb => Or.inl (hM.1 b hb), fun q hq hk => (o_1 q (fun z => hk (by rw [z, hM.2.1]; decide)))⟩
  refine aw_callVR (As := [.int (x)]) (rest := []) (c_X9_isDeck G hM1 hσ hc9 x) kX9_isDeck w_850 f_1 rfl rfl rfl rfl (Nat.le_of_ble_eq_true rfl) dX9_undo_7 ⟨Nat.le_of_ble_eq_true rfl, Nat.le_of_ble_eq_true rfl⟩ ⟨Nat.le_of_ble_eq_true rfl, Nat.le_of_ble_eq_true rfl⟩ ?_
  refine aw_if_neB (tgt := 19) dX9_undo_10 (by decide) (fun hx => ?_) (fun hx => ?_)
  · skip
    obtain ⟨i, dk, a, b, ds, l, ps, sc, hi4, hi, hxi, hdI, hDL, hids, hds4, hdk, hC, hb, hbm, hl2, hl16, hc, ha, hsc, hDD, hset⟩ := hM1.deckS hσ hc9 hx
    have hps0 := hDD.2.1
    refine aw_aload_n dX9_undo_19 rfl ?_
    refine aw_get 1 f_1 rfl rfl (by decide) w_731 rfl dX9_undo_20 ?_
    refine aw_iload_n dX9_undo_23 rfl ?_
    have hL_1 := hDL
    obtain ⟨u_11, u_1m, u_1e, u_12, u_13, u_14⟩ := hL_1
    refine aw_top (show (x) = (nI (i)) from hxi) ?_
    refine aw_callVR (As := [.int (nI (i))]) (rest := []) (c_Lget G hDL hids (by omega)) kJx4a65c_get_915e3 w_854 u_12 rfl rfl rfl rfl (Nat.le_of_ble_eq_true rfl) dX9_undo_24 ⟨Nat.le_of_ble_eq_true rfl, Nat.le_of_ble_eq_true rfl⟩ ⟨Nat.le_of_ble_eq_true rfl, Nat.le_of_ble_eq_true rfl⟩ ?_
    rw [hdk]
    have hC_1 := hC
    obtain ⟨y_1f, y_1g, y_11, y_12, y_13, y_1v⟩ := hC_1
    refine aw_castO y_11 rfl rfl w_765 dX9_undo_27 ?_
    refine aw_astore_n (L' := [(2, .ref (dk)), (0, .ref (m)), (1, .int (x))]) dX9_undo_30 (by decide) rfl ?_
    refine aw_aload_n dX9_undo_31 rfl ?_
    refine aw_callVQ (As := []) (rest := []) (c_X7_back G hDD hsc hi4) kX7_back w_927 y_11 rfl rfl rfl rfl (Nat.le_of_ble_eq_true rfl) dX9_undo_32 ⟨Nat.le_of_ble_eq_true rfl, Nat.le_of_ble_eq_true rfl⟩ ⟨Nat.le_of_ble_eq_true rfl, Nat.le_of_ble_eq_true rfl⟩ (fun v_1 h_2 n_1 q_1 z_1 => ?_)
    obtain ⟨hn9, rfl, ⟨hps, rfl⟩ | ⟨hps, hGo, oB⟩⟩ := q_1
    · skip
      have hn9 := hn9.symm
      subst hn9
      refine aw_if_neB (tgt := 40) dX9_undo_35 (by decide) (fun c9 => absurd c9 (by rw [hps]; decide)) (fun c9 => ?_)
      refine aw_iconst dX9_undo_38 ic_m1 ?_
      have hs : sUndo σ x = (.inl (some (.int (-1))), σ) := by unfold sUndo; rw [if_pos hx, hdI, if_pos hps]
      exact aw_ireturn dX9_undo_39 rfl (mAsk hσ.1 hσ.2.1 hM (by omega) f_1 (fun q hq hqm => (o_1 q (by omega))) hs rfl) (Nat.le_of_ble_eq_true rfl) (Nat.le_of_ble_eq_true rfl)
    · skip
      have hn9 := hn9.symm
      subst hn9
      refine aw_if_neB (tgt := 40) dX9_undo_35 (by decide) (fun c9 => ?_) (fun c9 => absurd c9 (fun w => absurd (of_decide_eq_false w) (fun z => z hps)))
      have FB : Fr own own h_1 h_2 nx nx (KDk i) := ⟨Nat.le_refl _, fun _ _ => rfl, hM.1, fun b hb => Or.inl (hM.1 b hb), fun q hq hk => oB q hk⟩
      have hM2 := hset own _ _ _ FB hGo
      have fm2 := (oB m (by rw [hM.2.1]; omega)).trans f_1
      have hGc := hGo
      obtain ⟨g1, -, -, a8, b8, as8, bs8, hC8, g2, -⟩ := hGc
      obtain ⟨y_2f, y_2g, y_21, y_22, y_23, y_2v⟩ := hC8
      have hdm : dk ≠ m := hbm.1
      have ham : a8 ≠ m := fun z => by rw [z, hM.2.1] at g2; omega
      have hkb := k_undo hσ x
      obtain ⟨l2, ps2, rfl⟩ : ∃ l2 ps2, ps = l2 :: ps2 := by cases ps with | nil => exact absurd rfl hps | cons l2 ps2 => exact ⟨l2, ps2, rfl⟩
      have hk2 := (hσ.2.2.2.1 i hi).2.2.2.1
      have hdI2 : σ.1.getD i dk0 = (l, l2 :: ps2, sc) := by rw [← hdI, hxi]; exact (dkI_i (by omega)).symm
      rw [hdI2] at hk2
      have hrc : cOk l.length l2 := (hk2 l2 List.mem_cons_self).1
      have hrl := hrc.1
      have h0c := hrc.lt (i := 0) (by omega)
      have hbl : (backD (l, l2 :: ps2, sc)).1.length = l2.length := rfl
      refine aw_aload_n dX9_undo_40 rfl ?_
      refine aw_dup dX9_undo_41 rfl ?_
      refine aw_get 3 fm2 rfl rfl (by decide) w_733 rfl dX9_undo_42 ?_
      refine aw_ic dX9_undo_45 ic_1 ?_
      refine aw_iaddN dX9_undo_46 ?_
      refine aw_putV (v := .int (nI (σ.2.2 + 1))) (ty := .int) (fs' := [.int (nI (0)), .ref (m + 1), .ref (m + 2), .int (nI (σ.2.2 + 1)), .long (w_1s)]) 3 fm2 rfl rfl (by decide) (by decide +kernel) rfl rfl rfl (Nat.le_of_ble_eq_true rfl) rfl w_733 dX9_undo_47 (fun h_3 f_2 o_2 => ?_)
      have f_3 := (o_2 dk (by omega)).trans y_21
      have f_4 := (o_2 a8 (by omega)).trans y_22
      refine aw_aload_n dX9_undo_50 rfl ?_
      refine aw_getN 0 f_3 rfl rfl (by decide) w_774 rfl dX9_undo_51 ?_
      refine aw_ic dX9_undo_54 ic_0 ?_
      refine aw_iaload f_4 (by omega) (by omega) dX9_undo_55 ?_
      refine aw_top (show (y_2f 0) = (nI (l2.getD 0 0 / 2)) from (y_2v 0 (by omega)).1) ?_
      have hM3 := (MAt.obj (σ := setD σ x (backD (l, l2 :: ps2, sc))) (by show (σ.1.set x.toInt.toNat _).length ≤ 4; rw [List.length_set]; exact h4) h5 hM2 f_2 (fun q hq => (o_2 q (by omega))))
      have F3 : Fr own own h_2 h_3 nx nx KM := ⟨Nat.le_refl _, fun _ _ => rfl, hM.1, fun b hb => Or.inl (hM.1 b hb), fun q hq hk => (o_2 q (fun z => hk (by rw [z, hM.2.1]; decide)))⟩
      have hs : sUndo σ x = (.inl (some (.int (nI (l2.getD 0 0 / 2)))), (setD σ x (backD (l, l2 :: ps2, sc))).1, (setD σ x (backD (l, l2 :: ps2, sc))).2.1, σ.2.2 + 1) := by unfold sUndo; rw [if_pos hx, hdI, if_neg hps]; rfl
      exact aw_ireturn dX9_undo_56 rfl (mDid ((F1.tr (FB.mono (fun j hj => ⟨by unfold KDk at hj; omega, by unfold KDk at hj; omega⟩))).tr F3) hM3 hs rfl) (Nat.le_of_ble_eq_true rfl) (Nat.le_of_ble_eq_true rfl)
  · skip
    refine aw_aload_n dX9_undo_13 rfl ?_
    refine aw_ic dX9_undo_14 ic_1 ?_
    refine aw_callVQ (As := [.int (nI (1))]) (rest := []) (c_X9_refuse G f_1) kX9_refuse w_757 f_1 rfl rfl rfl rfl (Nat.le_of_ble_eq_true rfl) dX9_undo_15 ⟨Nat.le_of_ble_eq_true rfl, Nat.le_of_ble_eq_true rfl⟩ ⟨Nat.le_of_ble_eq_true rfl, Nat.le_of_ble_eq_true rfl⟩ (fun v_2 h_4 n_2 q_2 z_2 => ?_)
    obtain ⟨rfl, rfl, qm, qo⟩ := q_2
    have hs : sUndo σ x = (.inr xIOB, σ) := by unfold sUndo; rw [hx]; rfl
    exact aw_ireturn dX9_undo_18 rfl (mAsk hσ.1 hσ.2.1 hM (by omega) qm (fun q hq hqm => ((qo q (by omega)).trans (o_1 q (by omega)))) hs (mR cdA_iob)) (Nat.le_of_ble_eq_true rfl) (Nat.le_of_ble_eq_true rfl)
