theorem cdA_iob : cdA xIOB = 1 := by decide
theorem cdA_iae : cdA xIAE = 2 := by decide
theorem cdA_ise : cdA xISE = 3 := by decide
theorem cdB_iae : cdB xIAE = 1 := by decide
theorem cdB_ise : cdB xISE = 2 := by decide
theorem mR {cd : String → Nat} {z : Value} {E : String} {t : Nat} (h : cd E = t) : mRes cd z (.inr E) = (z, t) := by show (z, cd E) = _; rw [h]
theorem isO_nI {k m : Int32} {n : Nat} (h : isO k.toInt m.toInt n = true) : ∃ a b : Nat, k = nI a ∧ m = nI b ∧ isO (a : Int) (b : Int) n = true ∧ k.toInt.toNat = a ∧ m.toInt.toNat = b := by
  have h0 := of_decide_eq_true h
  have hk : (0 : Int32) ≤ k := by rw [Int32.le_iff_toInt_le]; have e0 : (0 : Int32).toInt = 0 := (by decide); omega
  have hm : (0 : Int32) ≤ m := by rw [Int32.le_iff_toInt_le]; have e0 : (0 : Int32).toInt = 0 := (by decide); omega
  obtain ⟨a, ha, rfl⟩ := nI_of (x := k) (Int32.not_lt.mpr hk)
  obtain ⟨b, hb, rfl⟩ := nI_of (x := m) (Int32.not_lt.mpr hm)
  rw [nI_toInt ha, nI_toInt hb] at h
  exact ⟨a, b, rfl, rfl, h, by rw [nI_toInt ha]; rfl, by rw [nI_toInt hb]; rfl⟩
set_option maxHeartbeats 4000000 in
set_option maxRecDepth 20000 in
/-- thrown() -/
theorem c_X9_thrown (G : aG) {h : aH} {nx m t : Nat} {th : Int32} {s : Int64} (e : h m = some (mObj m th t s)) : aMet G mX9_thrown 0 0 0 [.ref (m)] h nx (pI th h nx) := by
  refine aMet_of rfl (Nat.le_of_ble_eq_true rfl) ?_
  show aw G mX9_thrown [] (aRoom 0 0 0) (aEnd G (pI th h nx) 0 0) 0 0 h nx 0 [(0, .ref (m))] []
  refine aw_aload_n dX9_thrown_0 rfl ?_
  refine aw_get 0 e rfl rfl (by decide) w_730 rfl dX9_thrown_1 ?_
  exact aw_ireturn dX9_thrown_4 rfl ⟨rfl, rfl, rfl⟩ (Nat.le_of_ble_eq_true rfl) (Nat.le_of_ble_eq_true rfl)
set_option maxHeartbeats 4000000 in
set_option maxRecDepth 20000 in
/-- refuse(k) -/
theorem c_X9_refuse (G : aG) {h : aH} {nx m t : Nat} {th k : Int32} {s : Int64} (e : h m = some (mObj m th t s)) : aMet G mX9_refuse 0 0 0 [.ref (m), .int (k)] h nx (pQ (fun v h1 n1 => v = some (.int (nI 0)) ∧ n1 = nx ∧ h1 m = some (mObj m k t s) ∧ ∀ b, b ≠ m → h1 b = h b)) := by
  refine aMet_of rfl (Nat.le_of_ble_eq_true rfl) ?_
  show aw G mX9_refuse [] (aRoom 0 0 0) (aEnd G (pQ (fun v h1 n1 => v = some (.int (nI 0)) ∧ n1 = nx ∧ h1 m = some (mObj m k t s) ∧ ∀ b, b ≠ m → h1 b = h b)) 0 0) 0 0 h nx 0 [(0, .ref (m)), (1, .int (k))] []
  refine aw_aload_n dX9_refuse_0 rfl ?_
  refine aw_iload_n dX9_refuse_1 rfl ?_
  refine aw_putV (v := .int (k)) (ty := .int) (fs' := [.int (k), .ref (m + 1), .ref (m + 2), .int (nI (t)), .long (s)]) 0 e rfl rfl (by decide) (by decide +kernel) rfl rfl rfl (Nat.le_of_ble_eq_true rfl) rfl w_730 dX9_refuse_2 (fun h_1 f_1 o_1 => ?_)
  refine aw_ic dX9_refuse_5 ic_0 ?_
  exact aw_ireturn dX9_refuse_6 rfl ⟨_, rfl, rfl, rfl, f_1, o_1⟩ (Nat.le_of_ble_eq_true rfl) (Nat.le_of_ble_eq_true rfl)
set_option maxHeartbeats 4000000 in
set_option maxRecDepth 20000 in
/-- isDeck(x) -/
theorem c_X9_isDeck (G : aG) {h : aH} {nx m c : Nat} {own : Nat → Nat} {σ : aSg} {th : Int32} (hM : MAt G own h nx m σ th) (hσ : sgOk c σ) (hc9 : c ≤ 512) (x : Int32) : aMet G mX9_isDeck 1 0 0 [.ref (m), .int (x)] h nx (pI (bI (inD σ x)) h nx) := by
  have h4 := hσ.1
  have h5 := hσ.2.1
  refine aMet_of rfl (Nat.le_of_ble_eq_true rfl) ?_
  show aw G mX9_isDeck [] (aRoom 1 0 0) (aEnd G (pI (bI (inD σ x)) h nx) 0 0) 0 0 h nx 0 [(0, .ref (m)), (1, .int (x))] []
  have w_1M := hM
  obtain ⟨w_1o, w_1m, ⟨w_1s, w_1f⟩, -⟩ := w_1M
  obtain ⟨xs, hL, hn, -⟩ := hM.2.2.2.1
  have hL0 := hL
  refine aw_iload_n dX9_isDeck_0 rfl ?_
  refine aw_ic dX9_isDeck_1 ic_0 ?_
  refine aw_aload_n dX9_isDeck_2 rfl ?_
  refine aw_get 1 w_1f rfl rfl (by decide) w_731 rfl dX9_isDeck_3 ?_
  obtain ⟨u_11, u_1m, u_1e, u_12, u_13, u_14⟩ := hL0
  refine aw_callVR (As := []) (rest := [.int (nI (0)), .int (x)]) (c_Lsize G hL) kJx4a65c_size_8abf5 w_761 u_12 rfl rfl rfl rfl (Nat.le_of_ble_eq_true rfl) dX9_isDeck_6 ⟨Nat.le_of_ble_eq_true rfl, Nat.le_of_ble_eq_true rfl⟩ ⟨Nat.le_of_ble_eq_true rfl, Nat.le_of_ble_eq_true rfl⟩ ?_
  rw [hn]
  refine aw_ic dX9_isDeck_9 ic_1 ?_
  refine aw_isub dX9_isDeck_10 ?_
  refine aw_callSR (As := [.int (x), .int (nI (0)), .int (nI (σ.1.length) - nI (1))]) (rest := []) (c_X9_is G x (nI 0) (nI (σ.1.length) - nI 1)) kX9_is w_754 rfl rfl (Nat.le_of_ble_eq_true rfl) dX9_isDeck_11 ⟨Nat.le_of_ble_eq_true rfl, Nat.le_of_ble_eq_true rfl⟩ ⟨Nat.le_of_ble_eq_true rfl, Nat.le_of_ble_eq_true rfl⟩ ?_
  exact aw_zreturn dX9_isDeck_14 rfl (bI_nar (decide ((nI 0).toInt ≤ x.toInt ∧ x.toInt ≤ (nI (σ.1.length) - nI 1).toInt))) ⟨r_i (congrArg bI (by unfold inD; rw [subI1 _ (by omega), show (nI 0).toInt = 0 by decide]; exact decide_eq_decide.mpr (by omega))), rfl, rfl⟩ (Nat.le_of_ble_eq_true rfl) (Nat.le_of_ble_eq_true rfl)
set_option maxHeartbeats 4000000 in
set_option maxRecDepth 20000 in
/-- isSequence(x) -/
theorem c_X9_isSequence (G : aG) {h : aH} {nx m c : Nat} {own : Nat → Nat} {σ : aSg} {th : Int32} (hM : MAt G own h nx m σ th) (hσ : sgOk c σ) (hc9 : c ≤ 512) (x : Int32) : aMet G mX9_isSequence 1 0 0 [.ref (m), .int (x)] h nx (pI (bI (inS σ x)) h nx) := by
  have h4 := hσ.1
  have h5 := hσ.2.1
  refine aMet_of rfl (Nat.le_of_ble_eq_true rfl) ?_
  show aw G mX9_isSequence [] (aRoom 1 0 0) (aEnd G (pI (bI (inS σ x)) h nx) 0 0) 0 0 h nx 0 [(0, .ref (m)), (1, .int (x))] []
  have w_1M := hM
  obtain ⟨w_1o, w_1m, ⟨w_1s, w_1f⟩, -⟩ := w_1M
  obtain ⟨xs, hL, hn, -⟩ := hM.2.2.2.2
  have hL0 := hL
  refine aw_iload_n dX9_isSequence_0 rfl ?_
  refine aw_ic dX9_isSequence_1 ic_0 ?_
  refine aw_aload_n dX9_isSequence_2 rfl ?_
  refine aw_get 2 w_1f rfl rfl (by decide) w_732 rfl dX9_isSequence_3 ?_
  obtain ⟨u_11, u_1m, u_1e, u_12, u_13, u_14⟩ := hL0
  refine aw_callVR (As := []) (rest := [.int (nI (0)), .int (x)]) (c_Lsize G hL) kJx4a65c_size_8abf5 w_761 u_12 rfl rfl rfl rfl (Nat.le_of_ble_eq_true rfl) dX9_isSequence_6 ⟨Nat.le_of_ble_eq_true rfl, Nat.le_of_ble_eq_true rfl⟩ ⟨Nat.le_of_ble_eq_true rfl, Nat.le_of_ble_eq_true rfl⟩ ?_
  rw [hn]
  refine aw_ic dX9_isSequence_9 ic_1 ?_
  refine aw_isub dX9_isSequence_10 ?_
  refine aw_callSR (As := [.int (x), .int (nI (0)), .int (nI (σ.2.1.length) - nI (1))]) (rest := []) (c_X9_is G x (nI 0) (nI (σ.2.1.length) - nI 1)) kX9_is w_754 rfl rfl (Nat.le_of_ble_eq_true rfl) dX9_isSequence_11 ⟨Nat.le_of_ble_eq_true rfl, Nat.le_of_ble_eq_true rfl⟩ ⟨Nat.le_of_ble_eq_true rfl, Nat.le_of_ble_eq_true rfl⟩ ?_
  exact aw_zreturn dX9_isSequence_14 rfl (bI_nar (decide ((nI 0).toInt ≤ x.toInt ∧ x.toInt ≤ (nI (σ.2.1.length) - nI 1).toInt))) ⟨r_i (congrArg bI (by unfold inS; rw [subI1 _ (by omega), show (nI 0).toInt = 0 by decide]; exact decide_eq_decide.mpr (by omega))), rfl, rfl⟩ (Nat.le_of_ble_eq_true rfl) (Nat.le_of_ble_eq_true rfl)
set_option maxHeartbeats 4000000 in
set_option maxRecDepth 20000 in
/-- isPlace(x, p) -/
theorem c_X9_isPlace (G : aG) {h : aH} {nx m c : Nat} {own : Nat → Nat} {σ : aSg} {th : Int32} (hM : MAt G own h nx m σ th) (hσ : sgOk c σ) (hc9 : c ≤ 512) (x p : Int32) : aMet G mX9_isPlace 3 0 0 [.ref (m), .int (x), .int (p)] h nx (pI (bI (inD σ x && inP (dkI σ x).1 p)) h nx) := by
  refine aMet_of rfl (Nat.le_of_ble_eq_true rfl) ?_
  show aw G mX9_isPlace [] (aRoom 3 0 0) (aEnd G (pI (bI (inD σ x && inP (dkI σ x).1 p)) h nx) 0 0) 0 0 h nx 0 [(0, .ref (m)), (1, .int (x)), (2, .int (p))] []
  have w_1M := hM
  obtain ⟨w_1o, w_1m, ⟨w_1s, w_1f⟩, -⟩ := w_1M
  refine aw_aload_n dX9_isPlace_0 rfl ?_
  refine aw_iload_n dX9_isPlace_1 rfl ?_
  refine aw_callVR (As := [.int (x)]) (rest := []) (c_X9_isDeck G hM hσ hc9 x) kX9_isDeck w_850 w_1f rfl rfl rfl rfl (Nat.le_of_ble_eq_true rfl) dX9_isPlace_2 ⟨Nat.le_of_ble_eq_true rfl, Nat.le_of_ble_eq_true rfl⟩ ⟨Nat.le_of_ble_eq_true rfl, Nat.le_of_ble_eq_true rfl⟩ ?_
  refine aw_if_eqB (tgt := 36) dX9_isPlace_5 (by decide) (fun hx => ?_) (fun hx => ?_)
  · skip
    refine aw_ic dX9_isPlace_36 ic_0 ?_
    exact aw_zreturn dX9_isPlace_37 rfl (bI_nar false) ⟨r_f (by rw [hx]; rfl), rfl, rfl⟩ (Nat.le_of_ble_eq_true rfl) (Nat.le_of_ble_eq_true rfl)
  · skip
    obtain ⟨i, dk, a, b, ds, l, ps, sc, hi4, hi, hxi, hdI, hDL, hids, hds4, hdk, hC, hb, hbm, hl2, hl16, hc, ha, hsc, hDD⟩ := hM.deck hσ hc9 hx
    refine aw_iload_n dX9_isPlace_8 rfl ?_
    refine aw_ic dX9_isPlace_9 ic_0 ?_
    refine aw_aload_n dX9_isPlace_10 rfl ?_
    refine aw_get 1 w_1f rfl rfl (by decide) w_731 rfl dX9_isPlace_11 ?_
    refine aw_iload_n dX9_isPlace_14 rfl ?_
    have hL_1 := hDL
    obtain ⟨u_11, u_1m, u_1e, u_12, u_13, u_14⟩ := hL_1
    refine aw_top (show (x) = (nI (i)) from hxi) ?_
    refine aw_callVR (As := [.int (nI (i))]) (rest := [.int (nI (0)), .int (p)]) (c_Lget G hDL hids (by omega)) kJx4a65c_get_915e3 w_854 u_12 rfl rfl rfl rfl (Nat.le_of_ble_eq_true rfl) dX9_isPlace_15 ⟨Nat.le_of_ble_eq_true rfl, Nat.le_of_ble_eq_true rfl⟩ ⟨Nat.le_of_ble_eq_true rfl, Nat.le_of_ble_eq_true rfl⟩ ?_
    rw [hdk]
    have hC_1 := hC
    obtain ⟨y_1f, y_1g, y_11, y_12, y_13, y_1v⟩ := hC_1
    refine aw_castO y_11 rfl rfl w_765 dX9_isPlace_18 ?_
    refine aw_callVR (As := []) (rest := [.int (nI (0)), .int (p)]) (c_X7_size G hC hc hl16) kX7_size w_868 y_11 rfl rfl rfl rfl (Nat.le_of_ble_eq_true rfl) dX9_isPlace_21 ⟨Nat.le_of_ble_eq_true rfl, Nat.le_of_ble_eq_true rfl⟩ ⟨Nat.le_of_ble_eq_true rfl, Nat.le_of_ble_eq_true rfl⟩ ?_
    refine aw_ic dX9_isPlace_24 ic_1 ?_
    refine aw_isubN (by omega) dX9_isPlace_25 ?_
    refine aw_callSR (As := [.int (p), .int (nI (0)), .int (nI (l.length - 1))]) (rest := []) (c_X9_is G p (nI 0) (nI (l.length - 1))) kX9_is w_754 rfl rfl (Nat.le_of_ble_eq_true rfl) dX9_isPlace_26 ⟨Nat.le_of_ble_eq_true rfl, Nat.le_of_ble_eq_true rfl⟩ ⟨Nat.le_of_ble_eq_true rfl, Nat.le_of_ble_eq_true rfl⟩ ?_
    have hz : decide ((nI 0).toInt ≤ p.toInt ∧ p.toInt ≤ (nI (l.length - 1)).toInt) = inP l p := by unfold inP; rw [show (nI 0).toInt = 0 by decide, nI_toInt (by omega)]; exact decide_eq_decide.mpr (by omega)
    rw [hz]
    refine aw_if_eqB (tgt := 36) dX9_isPlace_29 (by decide) (fun hp => ?_) (fun hp => ?_)
    · skip
      refine aw_ic dX9_isPlace_36 ic_0 ?_
      exact aw_zreturn dX9_isPlace_37 rfl (bI_nar false) ⟨r_f (by rw [hx, hdI]; exact hp), rfl, rfl⟩ (Nat.le_of_ble_eq_true rfl) (Nat.le_of_ble_eq_true rfl)
    · skip
      refine aw_ic dX9_isPlace_32 ic_1 ?_
      refine aw_goto (tgt := 37) dX9_isPlace_33 (by decide) ?_
      exact aw_zreturn dX9_isPlace_37 rfl (bI_nar true) ⟨r_t (by rw [hx, hdI]; exact hp), rfl, rfl⟩ (Nat.le_of_ble_eq_true rfl) (Nat.le_of_ble_eq_true rfl)
set_option maxHeartbeats 4000000 in
set_option maxRecDepth 20000 in
/-- card -/
theorem m_X9_card (G : aG) {h : aH} {nx m c : Nat} {own : Nat → Nat} {σ : aSg} {th : Int32} (hM : MAt G own h nx m σ th) (hσ : sgOk c σ) (hc9 : c ≤ 512) (x p : Int32) : aMet G mX9_card 5 0 0 [.ref (m), .int (x), .int (p)] h nx (mPo G own h nx m cdA (.int (nI 0)) (sCard σ x p)) := by
  have h4 := hσ.1
  have h5 := hσ.2.1
  have hmn := own_lt hM.1 (b := m) (by rw [hM.2.1]; decide)
  refine aMet_of rfl (Nat.le_of_ble_eq_true rfl) ?_
  show aw G mX9_card [] (aRoom 5 0 0) (aEnd G (mPo G own h nx m cdA (.int (nI 0)) (sCard σ x p)) 0 0) 0 0 h nx 0 [(0, .ref (m)), (1, .int (x)), (2, .int (p))] []
  have w_1M := hM
  obtain ⟨w_1o, w_1m, ⟨w_1s, w_1f⟩, -⟩ := w_1M
  refine aw_aload_n dX9_card_0 rfl ?_
  refine aw_ic dX9_card_1 ic_0 ?_
  refine aw_putV (v := .int (nI (0))) (ty := .int) (fs' := [.int (nI (0)), .ref (m + 1), .ref (m + 2), .int (nI (σ.2.2)), .long (w_1s)]) 0 w_1f rfl rfl (by decide) (by decide +kernel) rfl rfl rfl (Nat.le_of_ble_eq_true rfl) rfl w_730 dX9_card_2 (fun h_1 f_1 o_1 => ?_)
  refine aw_aload_n dX9_card_5 rfl ?_
  refine aw_iload_n dX9_card_6 rfl ?_
  refine aw_iload_n dX9_card_7 rfl ?_
  have hM1 := hM.th hσ.1 hσ.2.1 (Nat.le_refl _) f_1 (fun q hq hqm => (o_1 q (by omega)))
  refine aw_callVR (As := [.int (x), .int (p)]) (rest := []) (c_X9_isPlace G hM1 hσ hc9 x p) kX9_isPlace w_937 f_1 rfl rfl rfl rfl (Nat.le_of_ble_eq_true rfl) dX9_card_8 ⟨Nat.le_of_ble_eq_true rfl, Nat.le_of_ble_eq_true rfl⟩ ⟨Nat.le_of_ble_eq_true rfl, Nat.le_of_ble_eq_true rfl⟩ ?_
  refine aw_if_eqB (tgt := 33) dX9_card_11 (by decide) (fun c1 => ?_) (fun c1 => ?_)
  · skip
    refine aw_aload_n dX9_card_33 rfl ?_
    refine aw_ic dX9_card_34 ic_1 ?_
    refine aw_callVQ (As := [.int (nI (1))]) (rest := []) (c_X9_refuse G f_1) kX9_refuse w_757 f_1 rfl rfl rfl rfl (Nat.le_of_ble_eq_true rfl) dX9_card_35 ⟨Nat.le_of_ble_eq_true rfl, Nat.le_of_ble_eq_true rfl⟩ ⟨Nat.le_of_ble_eq_true rfl, Nat.le_of_ble_eq_true rfl⟩ (fun v_1 h_2 n_1 q_1 z_1 => ?_)
    obtain ⟨rfl, rfl, qm, qo⟩ := q_1
    have hs : sCard σ x p = (.inr xIOB, σ) := by unfold sCard; cases hx : inD σ x with | false => rfl | true => rw [if_pos rfl, if_neg (by rw [hx] at c1; intro w; rw [w] at c1; exact absurd c1 (by decide))]
    exact aw_ireturn dX9_card_38 rfl (mAsk hσ.1 hσ.2.1 hM (by omega) qm (fun q hq hqm => ((qo q (by omega)).trans (o_1 q (by omega)))) hs (mR cdA_iob)) (Nat.le_of_ble_eq_true rfl) (Nat.le_of_ble_eq_true rfl)
  · skip
    have c2 := Bool.and_eq_true_iff.mp c1
    obtain ⟨hx, hp⟩ := c2
    obtain ⟨i, dk, a, b, ds, l, ps, sc, hi4, hi, hxi, hdI, hDL, hids, hds4, hdk, hC, hb, hbm, hl2, hl16, hc, ha, hsc, hDD⟩ := hM1.deck hσ hc9 hx
    have hp2 := hp
    rw [hdI] at hp2
    have hp2 : inP l p = true := hp2
    obtain ⟨j, hj, hpj⟩ := inP_nat hp2 hl16
    have hjN : p.toInt.toNat = j := by rw [hpj]; exact nI_nat (by omega)
    refine aw_aload_n dX9_card_14 rfl ?_
    refine aw_get 1 f_1 rfl rfl (by decide) w_731 rfl dX9_card_15 ?_
    refine aw_iload_n dX9_card_18 rfl ?_
    have hL_1 := hDL
    obtain ⟨u_11, u_1m, u_1e, u_12, u_13, u_14⟩ := hL_1
    refine aw_top (show (x) = (nI (i)) from hxi) ?_
    refine aw_callVR (As := [.int (nI (i))]) (rest := []) (c_Lget G hDL hids (by omega)) kJx4a65c_get_915e3 w_854 u_12 rfl rfl rfl rfl (Nat.le_of_ble_eq_true rfl) dX9_card_19 ⟨Nat.le_of_ble_eq_true rfl, Nat.le_of_ble_eq_true rfl⟩ ⟨Nat.le_of_ble_eq_true rfl, Nat.le_of_ble_eq_true rfl⟩ ?_
    rw [hdk]
    have hC_1 := hC
    obtain ⟨y_1f, y_1g, y_11, y_12, y_13, y_1v⟩ := hC_1
    refine aw_castO y_11 rfl rfl w_765 dX9_card_22 ?_
    refine aw_getN 0 y_11 rfl rfl (by decide) w_774 rfl dX9_card_25 ?_
    refine aw_iload_n dX9_card_28 rfl ?_
    refine aw_top (show (p) = (nI (j)) from hpj) ?_
    refine aw_iaload y_12 (by omega) (by omega) dX9_card_29 ?_
    refine aw_top (show (y_1f j) = (nI (l.getD j 0 / 2)) from (y_1v j hj).1) ?_
    refine aw_goto (tgt := 38) dX9_card_30 (by decide) ?_
    have hs : sCard σ x p = (.inl (some (.int (nI (l.getD j 0 / 2)))), σ) := by unfold sCard; rw [if_pos hx, if_pos hp, hdI, hjN]
    exact aw_ireturn dX9_card_38 rfl (mAsk hσ.1 hσ.2.1 hM (by omega) f_1 (fun q hq hqm => (o_1 q (by omega))) hs rfl) (Nat.le_of_ble_eq_true rfl) (Nat.le_of_ble_eq_true rfl)
set_option maxHeartbeats 4000000 in
set_option maxRecDepth 20000 in
/-- find -/
theorem m_X9_find (G : aG) {h : aH} {nx m c : Nat} {own : Nat → Nat} {σ : aSg} {th : Int32} (hM : MAt G own h nx m σ th) (hσ : sgOk c σ) (hc9 : c ≤ 512) (x p : Int32) (z : Bool) : aMet G mX9_find 5 0 0 [.ref (m), .int (x), .int (p), .int (bI (z))] h nx (mPo G own h nx m cdA (.int (nI 0)) (sFind σ x p z)) := by
  have h4 := hσ.1
  have h5 := hσ.2.1
  have hmn := own_lt hM.1 (b := m) (by rw [hM.2.1]; decide)
  refine aMet_of rfl (Nat.le_of_ble_eq_true rfl) ?_
  show aw G mX9_find [] (aRoom 5 0 0) (aEnd G (mPo G own h nx m cdA (.int (nI 0)) (sFind σ x p z)) 0 0) 0 0 h nx 0 [(0, .ref (m)), (1, .int (x)), (2, .int (p)), (3, .int (bI (z)))] []
  have w_1M := hM
  obtain ⟨w_1o, w_1m, ⟨w_1s, w_1f⟩, -⟩ := w_1M
  refine aw_aload_n dX9_find_0 rfl ?_
  refine aw_ic dX9_find_1 ic_0 ?_
  refine aw_putV (v := .int (nI (0))) (ty := .int) (fs' := [.int (nI (0)), .ref (m + 1), .ref (m + 2), .int (nI (σ.2.2)), .long (w_1s)]) 0 w_1f rfl rfl (by decide) (by decide +kernel) rfl rfl rfl (Nat.le_of_ble_eq_true rfl) rfl w_730 dX9_find_2 (fun h_1 f_1 o_1 => ?_)
  refine aw_aload_n dX9_find_5 rfl ?_
  refine aw_iload_n dX9_find_6 rfl ?_
  refine aw_iload_n dX9_find_7 rfl ?_
  have hM1 := hM.th hσ.1 hσ.2.1 (Nat.le_refl _) f_1 (fun q hq hqm => (o_1 q (by omega)))
  refine aw_callVR (As := [.int (x), .int (p)]) (rest := []) (c_X9_isPlace G hM1 hσ hc9 x p) kX9_isPlace w_937 f_1 rfl rfl rfl rfl (Nat.le_of_ble_eq_true rfl) dX9_find_8 ⟨Nat.le_of_ble_eq_true rfl, Nat.le_of_ble_eq_true rfl⟩ ⟨Nat.le_of_ble_eq_true rfl, Nat.le_of_ble_eq_true rfl⟩ ?_
  refine aw_if_neB (tgt := 20) dX9_find_11 (by decide) (fun c1 => ?_) (fun c1 => ?_)
  · skip
    have c2 := Bool.and_eq_true_iff.mp c1
    obtain ⟨hx, hp⟩ := c2
    obtain ⟨i, dk, a, b, ds, l, ps, sc, hi4, hi, hxi, hdI, hDL, hids, hds4, hdk, hC, hb, hbm, hl2, hl16, hc, ha, hsc, hDD⟩ := hM1.deck hσ hc9 hx
    have hp2 := hp
    rw [hdI] at hp2
    have hp2 : inP l p = true := hp2
    obtain ⟨j, hj, hpj⟩ := inP_nat hp2 hl16
    have hjN : p.toInt.toNat = j := by rw [hpj]; exact nI_nat (by omega)
    refine aw_aload_n dX9_find_20 rfl ?_
    refine aw_get 1 f_1 rfl rfl (by decide) w_731 rfl dX9_find_21 ?_
    refine aw_iload_n dX9_find_24 rfl ?_
    have hL_1 := hDL
    obtain ⟨u_11, u_1m, u_1e, u_12, u_13, u_14⟩ := hL_1
    refine aw_top (show (x) = (nI (i)) from hxi) ?_
    refine aw_callVR (As := [.int (nI (i))]) (rest := []) (c_Lget G hDL hids (by omega)) kJx4a65c_get_915e3 w_854 u_12 rfl rfl rfl rfl (Nat.le_of_ble_eq_true rfl) dX9_find_25 ⟨Nat.le_of_ble_eq_true rfl, Nat.le_of_ble_eq_true rfl⟩ ⟨Nat.le_of_ble_eq_true rfl, Nat.le_of_ble_eq_true rfl⟩ ?_
    rw [hdk]
    have hC_1 := hC
    obtain ⟨y_1f, y_1g, y_11, y_12, y_13, y_1v⟩ := hC_1
    refine aw_castO y_11 rfl rfl w_765 dX9_find_28 ?_
    refine aw_iload_n dX9_find_31 rfl ?_
    refine aw_top (show (p) = (nI (j)) from hpj) ?_
    have hix := ixOf_at ha hj
    refine aw_callVR (As := [.int (nI (j))]) (rest := []) (c_X7_find G hC hc hl16 ⟨_, hix⟩) kX7_find w_1024 y_11 rfl rfl rfl rfl (Nat.le_of_ble_eq_true rfl) dX9_find_32 ⟨Nat.le_of_ble_eq_true rfl, Nat.le_of_ble_eq_true rfl⟩ ⟨Nat.le_of_ble_eq_true rfl, Nat.le_of_ble_eq_true rfl⟩ ?_
    refine aw_istore (L' := [(4, .int (nI (ixOf l j))), (0, .ref (m)), (1, .int (x)), (2, .int (p)), (3, .int (bI (z)))]) dX9_find_35 (by decide) rfl ?_
    refine aw_iload_n dX9_find_37 rfl ?_
    refine aw_if_eqB (tgt := 69) dX9_find_38 (by decide) (fun hz => ?_) (fun hz => ?_)
    · skip
      refine aw_iload dX9_find_69 rfl ?_
      have hs : sFind σ x p z = (.inl (some (.int (nI (ixOf l j)))), σ) := by unfold sFind; rw [if_pos hx, if_pos hp, hdI, hjN, hz]; rfl
      exact aw_ireturn dX9_find_71 rfl (mAsk hσ.1 hσ.2.1 hM (by omega) f_1 (fun q hq hqm => (o_1 q (by omega))) hs rfl) (Nat.le_of_ble_eq_true rfl) (Nat.le_of_ble_eq_true rfl)
    · skip
      refine aw_aload_n dX9_find_41 rfl ?_
      refine aw_get 1 f_1 rfl rfl (by decide) w_731 rfl dX9_find_42 ?_
      refine aw_iload_n dX9_find_45 rfl ?_
      have hL_2 := hDL
      obtain ⟨u_21, u_2m, u_2e, u_22, u_23, u_24⟩ := hL_2
      refine aw_top (show (x) = (nI (i)) from hxi) ?_
      refine aw_callVR (As := [.int (nI (i))]) (rest := []) (c_Lget G hDL hids (by omega)) kJx4a65c_get_915e3 w_854 u_22 rfl rfl rfl rfl (Nat.le_of_ble_eq_true rfl) dX9_find_46 ⟨Nat.le_of_ble_eq_true rfl, Nat.le_of_ble_eq_true rfl⟩ ⟨Nat.le_of_ble_eq_true rfl, Nat.le_of_ble_eq_true rfl⟩ ?_
      rw [hdk]
      have hC_2 := hC
      obtain ⟨y_2f, y_2g, y_21, y_22, y_23, y_2v⟩ := hC_2
      refine aw_castO y_21 rfl rfl w_765 dX9_find_49 ?_
      refine aw_getN 1 y_21 rfl rfl (by decide) w_776 rfl dX9_find_52 ?_
      refine aw_iload dX9_find_55 rfl ?_
      refine aw_zaload y_23 (by omega) (by omega) dX9_find_57 ?_
      refine aw_top (show (y_2g (ixOf l j)) = (bI (decide (l.getD (ixOf l j) 0 % 2 = 1))) from (y_2v _ hix.1).2) ?_
      refine aw_if_eqB (tgt := 65) dX9_find_58 (by decide) (fun hq => ?_) (fun hq => ?_)
      · skip
        have hq2 : l.getD (ixOf l j) 0 % 2 = 0 := by have := of_decide_eq_false hq; omega
        refine aw_ic dX9_find_65 ic_0 ?_
        refine aw_goto (tgt := 71) dX9_find_66 (by decide) ?_
        have hs : sFind σ x p z = (.inl (some (.int (nI 0))), σ) := by unfold sFind; rw [if_pos hx, if_pos hp, hdI, hjN, hz]; show rI (nI (l.getD (ixOf l j) 0 % 2)) σ = _; rw [hq2]
        exact aw_ireturn dX9_find_71 rfl (mAsk hσ.1 hσ.2.1 hM (by omega) f_1 (fun q hq hqm => (o_1 q (by omega))) hs rfl) (Nat.le_of_ble_eq_true rfl) (Nat.le_of_ble_eq_true rfl)
      · skip
        have hq2 : l.getD (ixOf l j) 0 % 2 = 1 := of_decide_eq_true hq
        refine aw_ic dX9_find_61 ic_1 ?_
        refine aw_goto (tgt := 71) dX9_find_62 (by decide) ?_
        have hs : sFind σ x p z = (.inl (some (.int (nI 1))), σ) := by unfold sFind; rw [if_pos hx, if_pos hp, hdI, hjN, hz]; show rI (nI (l.getD (ixOf l j) 0 % 2)) σ = _; rw [hq2]
        exact aw_ireturn dX9_find_71 rfl (mAsk hσ.1 hσ.2.1 hM (by omega) f_1 (fun q hq hqm => (o_1 q (by omega))) hs rfl) (Nat.le_of_ble_eq_true rfl) (Nat.le_of_ble_eq_true rfl)
  · skip
    refine aw_aload_n dX9_find_14 rfl ?_
    refine aw_ic dX9_find_15 ic_1 ?_
    refine aw_callVQ (As := [.int (nI (1))]) (rest := []) (c_X9_refuse G f_1) kX9_refuse w_757 f_1 rfl rfl rfl rfl (Nat.le_of_ble_eq_true rfl) dX9_find_16 ⟨Nat.le_of_ble_eq_true rfl, Nat.le_of_ble_eq_true rfl⟩ ⟨Nat.le_of_ble_eq_true rfl, Nat.le_of_ble_eq_true rfl⟩ (fun v_1 h_2 n_1 q_1 z_1 => ?_)
    obtain ⟨rfl, rfl, qm, qo⟩ := q_1
    have hs : sFind σ x p z = (.inr xIOB, σ) := by unfold sFind; cases hx : inD σ x with | false => rfl | true => rw [if_pos rfl, if_neg (by rw [hx] at c1; intro w; rw [w] at c1; exact absurd c1 (by decide))]
    exact aw_ireturn dX9_find_19 rfl (mAsk hσ.1 hσ.2.1 hM (by omega) qm (fun q hq hqm => ((qo q (by omega)).trans (o_1 q (by omega)))) hs (mR cdA_iob)) (Nat.le_of_ble_eq_true rfl) (Nat.le_of_ble_eq_true rfl)
set_option maxHeartbeats 4000000 in
set_option maxRecDepth 20000 in
/-- toTop -/
theorem m_X9_toTop (G : aG) {h : aH} {nx m c : Nat} {own : Nat → Nat} {σ : aSg} {th : Int32} (hM : MAt G own h nx m σ th) (hσ : sgOk c σ) (hc9 : c ≤ 512) (x p : Int32) : aMet G mX9_toTop 5 0 0 [.ref (m), .int (x), .int (p)] h nx (mPo G own h nx m cdA (.int (nI 0)) (sToTop σ x p)) := by
  have h4 := hσ.1
  have h5 := hσ.2.1
  have hmn := own_lt hM.1 (b := m) (by rw [hM.2.1]; decide)
  refine aMet_of rfl (Nat.le_of_ble_eq_true rfl) ?_
  show aw G mX9_toTop [] (aRoom 5 0 0) (aEnd G (mPo G own h nx m cdA (.int (nI 0)) (sToTop σ x p)) 0 0) 0 0 h nx 0 [(0, .ref (m)), (1, .int (x)), (2, .int (p))] []
  have w_1M := hM
  obtain ⟨w_1o, w_1m, ⟨w_1s, w_1f⟩, -⟩ := w_1M
  refine aw_aload_n dX9_toTop_0 rfl ?_
  refine aw_ic dX9_toTop_1 ic_0 ?_
  refine aw_putV (v := .int (nI (0))) (ty := .int) (fs' := [.int (nI (0)), .ref (m + 1), .ref (m + 2), .int (nI (σ.2.2)), .long (w_1s)]) 0 w_1f rfl rfl (by decide) (by decide +kernel) rfl rfl rfl (Nat.le_of_ble_eq_true rfl) rfl w_730 dX9_toTop_2 (fun h_1 f_1 o_1 => ?_)
  refine aw_aload_n dX9_toTop_5 rfl ?_
  refine aw_iload_n dX9_toTop_6 rfl ?_
  refine aw_iload_n dX9_toTop_7 rfl ?_
  have hM1 := hM.th hσ.1 hσ.2.1 (Nat.le_refl _) f_1 (fun q hq hqm => (o_1 q (by omega)))
  refine aw_callVR (As := [.int (x), .int (p)]) (rest := []) (c_X9_isPlace G hM1 hσ hc9 x p) kX9_isPlace w_937 f_1 rfl rfl rfl rfl (Nat.le_of_ble_eq_true rfl) dX9_toTop_8 ⟨Nat.le_of_ble_eq_true rfl, Nat.le_of_ble_eq_true rfl⟩ ⟨Nat.le_of_ble_eq_true rfl, Nat.le_of_ble_eq_true rfl⟩ ?_
  refine aw_if_eqB (tgt := 32) dX9_toTop_11 (by decide) (fun c1 => ?_) (fun c1 => ?_)
  · skip
    refine aw_aload_n dX9_toTop_32 rfl ?_
    refine aw_ic dX9_toTop_33 ic_1 ?_
    refine aw_callVQ (As := [.int (nI (1))]) (rest := []) (c_X9_refuse G f_1) kX9_refuse w_757 f_1 rfl rfl rfl rfl (Nat.le_of_ble_eq_true rfl) dX9_toTop_34 ⟨Nat.le_of_ble_eq_true rfl, Nat.le_of_ble_eq_true rfl⟩ ⟨Nat.le_of_ble_eq_true rfl, Nat.le_of_ble_eq_true rfl⟩ (fun v_1 h_2 n_1 q_1 z_1 => ?_)
    obtain ⟨rfl, rfl, qm, qo⟩ := q_1
    have hs : sToTop σ x p = (.inr xIOB, σ) := by unfold sToTop; cases hx : inD σ x with | false => rfl | true => rw [if_pos rfl, if_neg (by rw [hx] at c1; intro w; rw [w] at c1; exact absurd c1 (by decide))]
    exact aw_ireturn dX9_toTop_37 rfl (mAsk hσ.1 hσ.2.1 hM (by omega) qm (fun q hq hqm => ((qo q (by omega)).trans (o_1 q (by omega)))) hs (mR cdA_iob)) (Nat.le_of_ble_eq_true rfl) (Nat.le_of_ble_eq_true rfl)
  · skip
    have c2 := Bool.and_eq_true_iff.mp c1
    obtain ⟨hx, hp⟩ := c2
    obtain ⟨i, dk, a, b, ds, l, ps, sc, hi4, hi, hxi, hdI, hDL, hids, hds4, hdk, hC, hb, hbm, hl2, hl16, hc, ha, hsc, hDD⟩ := hM1.deck hσ hc9 hx
    have hp2 := hp
    rw [hdI] at hp2
    have hp2 : inP l p = true := hp2
    obtain ⟨j, hj, hpj⟩ := inP_nat hp2 hl16
    have hjN : p.toInt.toNat = j := by rw [hpj]; exact nI_nat (by omega)
    refine aw_aload_n dX9_toTop_14 rfl ?_
    refine aw_get 1 f_1 rfl rfl (by decide) w_731 rfl dX9_toTop_15 ?_
    refine aw_iload_n dX9_toTop_18 rfl ?_
    have hL_1 := hDL
    obtain ⟨u_11, u_1m, u_1e, u_12, u_13, u_14⟩ := hL_1
    refine aw_top (show (x) = (nI (i)) from hxi) ?_
    refine aw_callVR (As := [.int (nI (i))]) (rest := []) (c_Lget G hDL hids (by omega)) kJx4a65c_get_915e3 w_854 u_12 rfl rfl rfl rfl (Nat.le_of_ble_eq_true rfl) dX9_toTop_19 ⟨Nat.le_of_ble_eq_true rfl, Nat.le_of_ble_eq_true rfl⟩ ⟨Nat.le_of_ble_eq_true rfl, Nat.le_of_ble_eq_true rfl⟩ ?_
    rw [hdk]
    have hC_1 := hC
    obtain ⟨y_1f, y_1g, y_11, y_12, y_13, y_1v⟩ := hC_1
    refine aw_castO y_11 rfl rfl w_765 dX9_toTop_22 ?_
    refine aw_iload_n dX9_toTop_25 rfl ?_
    refine aw_top (show (p) = (nI (j)) from hpj) ?_
    refine aw_callSR (As := [.ref (dk), .int (nI (j))]) (rest := []) (c_X9_toTopNow G hC hc hl16 hl2 hj) kX9_toTopNow w_1148 rfl rfl (Nat.le_of_ble_eq_true rfl) dX9_toTop_26 ⟨Nat.le_of_ble_eq_true rfl, Nat.le_of_ble_eq_true rfl⟩ ⟨Nat.le_of_ble_eq_true rfl, Nat.le_of_ble_eq_true rfl⟩ ?_
    refine aw_goto (tgt := 37) dX9_toTop_29 (by decide) ?_
    have hs : sToTop σ x p = (.inl (some (.int (toT l j))), σ) := by unfold sToTop; rw [if_pos hx, if_pos hp, hdI, hjN]
    exact aw_ireturn dX9_toTop_37 rfl (mAsk hσ.1 hσ.2.1 hM (by omega) f_1 (fun q hq hqm => (o_1 q (by omega))) hs rfl) (Nat.le_of_ble_eq_true rfl) (Nat.le_of_ble_eq_true rfl)
set_option maxHeartbeats 4000000 in
set_option maxRecDepth 20000 in
/-- ofDeck -/
theorem m_X9_ofDeck (G : aG) {h : aH} {nx m c : Nat} {own : Nat → Nat} {σ : aSg} {th : Int32} (hM : MAt G own h nx m σ th) (hσ : sgOk c σ) (hc9 : c ≤ 512) (x w : Int32) : aMet G mX9_ofDeck 20 3 34 [.ref (m), .int (x), .int (w)] h nx (mPo G own h nx m cdA (.int (nI 0)) (sOfDeck σ x w)) := by
  have h4 := hσ.1
  have h5 := hσ.2.1
  have hmn := own_lt hM.1 (b := m) (by rw [hM.2.1]; decide)
  refine aMet_of rfl (Nat.le_of_ble_eq_true rfl) ?_
  show aw G mX9_ofDeck [] (aRoom 20 3 34) (aEnd G (mPo G own h nx m cdA (.int (nI 0)) (sOfDeck σ x w)) 3 34) 0 0 h nx 0 [(0, .ref (m)), (1, .int (x)), (2, .int (w))] []
  have w_1M := hM
  obtain ⟨w_1o, w_1m, ⟨w_1s, w_1f⟩, -⟩ := w_1M
  refine aw_aload_n dX9_ofDeck_0 rfl ?_
  refine aw_ic dX9_ofDeck_1 ic_0 ?_
  refine aw_putV (v := .int (nI (0))) (ty := .int) (fs' := [.int (nI (0)), .ref (m + 1), .ref (m + 2), .int (nI (σ.2.2)), .long (w_1s)]) 0 w_1f rfl rfl (by decide) (by decide +kernel) rfl rfl rfl (Nat.le_of_ble_eq_true rfl) rfl w_730 dX9_ofDeck_2 (fun h_1 f_1 o_1 => ?_)
  refine aw_aload_n dX9_ofDeck_5 rfl ?_
  refine aw_iload_n dX9_ofDeck_6 rfl ?_
  have hM1 := hM.th hσ.1 hσ.2.1 (Nat.le_refl _) f_1 (fun q hq hqm => (o_1 q (by omega)))
  refine aw_callVR (As := [.int (x)]) (rest := []) (c_X9_isDeck G hM1 hσ hc9 x) kX9_isDeck w_850 f_1 rfl rfl rfl rfl (Nat.le_of_ble_eq_true rfl) dX9_ofDeck_7 ⟨Nat.le_of_ble_eq_true rfl, Nat.le_of_ble_eq_true rfl⟩ ⟨Nat.le_of_ble_eq_true rfl, Nat.le_of_ble_eq_true rfl⟩ ?_
  refine aw_if_neB (tgt := 19) dX9_ofDeck_10 (by decide) (fun hx => ?_) (fun hx => ?_)
  · skip
    refine aw_iload_n dX9_ofDeck_19 rfl ?_
    refine aw_ic dX9_ofDeck_20 ic_0 ?_
    refine aw_bp (v := 10) dX9_ofDeck_21 (by decide) ?_
    refine aw_callSR (As := [.int (w), .int (nI (0)), .int (nI (10))]) (rest := []) (c_X9_is G w (nI 0) (nI 10)) kX9_is w_754 rfl rfl (Nat.le_of_ble_eq_true rfl) dX9_ofDeck_23 ⟨Nat.le_of_ble_eq_true rfl, Nat.le_of_ble_eq_true rfl⟩ ⟨Nat.le_of_ble_eq_true rfl, Nat.le_of_ble_eq_true rfl⟩ ?_
    have hz : decide ((nI 0).toInt ≤ w.toInt ∧ w.toInt ≤ (nI 10).toInt) = wIn w 0 10 := by unfold wIn; rw [show (nI 0).toInt = 0 by decide, show (nI 10).toInt = 10 by decide]
    rw [hz]
    refine aw_if_eqB (tgt := 47) dX9_ofDeck_26 (by decide) (fun hw => ?_) (fun hw => ?_)
    · skip
      refine aw_aload_n dX9_ofDeck_47 rfl ?_
      refine aw_ic dX9_ofDeck_48 ic_2 ?_
      refine aw_callVQ (As := [.int (nI (2))]) (rest := []) (c_X9_refuse G f_1) kX9_refuse w_757 f_1 rfl rfl rfl rfl (Nat.le_of_ble_eq_true rfl) dX9_ofDeck_49 ⟨Nat.le_of_ble_eq_true rfl, Nat.le_of_ble_eq_true rfl⟩ ⟨Nat.le_of_ble_eq_true rfl, Nat.le_of_ble_eq_true rfl⟩ (fun v_1 h_2 n_1 q_1 z_1 => ?_)
      obtain ⟨rfl, rfl, qm, qo⟩ := q_1
      have hs : sOfDeck σ x w = (.inr xIAE, σ) := by unfold sOfDeck; rw [if_pos hx, hw]; rfl
      exact aw_ireturn dX9_ofDeck_52 rfl (mAsk hσ.1 hσ.2.1 hM (by omega) qm (fun q hq hqm => ((qo q (by omega)).trans (o_1 q (by omega)))) hs (mR cdA_iae)) (Nat.le_of_ble_eq_true rfl) (Nat.le_of_ble_eq_true rfl)
    · skip
      obtain ⟨i, dk, a, b, ds, l, ps, sc, hi4, hi, hxi, hdI, hDL, hids, hds4, hdk, hC, hb, hbm, hl2, hl16, hc, ha, hsc, hDD⟩ := hM1.deck hσ hc9 hx
      obtain ⟨u, -, hu, hwu⟩ := wIn_nat (a := 0) (b := 10) hw (by decide)
      refine aw_aload_n dX9_ofDeck_29 rfl ?_
      refine aw_get 1 f_1 rfl rfl (by decide) w_731 rfl dX9_ofDeck_30 ?_
      refine aw_iload_n dX9_ofDeck_33 rfl ?_
      have hL_1 := hDL
      obtain ⟨u_11, u_1m, u_1e, u_12, u_13, u_14⟩ := hL_1
      refine aw_top (show (x) = (nI (i)) from hxi) ?_
      refine aw_callVR (As := [.int (nI (i))]) (rest := []) (c_Lget G hDL hids (by omega)) kJx4a65c_get_915e3 w_854 u_12 rfl rfl rfl rfl (Nat.le_of_ble_eq_true rfl) dX9_ofDeck_34 ⟨Nat.le_of_ble_eq_true rfl, Nat.le_of_ble_eq_true rfl⟩ ⟨Nat.le_of_ble_eq_true rfl, Nat.le_of_ble_eq_true rfl⟩ ?_
      rw [hdk]
      have hC_1 := hC
      obtain ⟨y_1f, y_1g, y_11, y_12, y_13, y_1v⟩ := hC_1
      refine aw_castO y_11 rfl rfl w_765 dX9_ofDeck_37 ?_
      refine aw_iload_n dX9_ofDeck_40 rfl ?_
      refine aw_top (show (w) = (nI (u)) from hwu) ?_
      refine aw_callSQ (As := [.ref (dk), .int (nI (u))]) (rest := []) (c_X9_ofDeckNow G (ps := ps) hC hc hl16 hb hl2 ha hsc hu) kX9_ofDeckNow w_1032 rfl rfl (Nat.le_of_ble_eq_true rfl) dX9_ofDeck_41 ⟨Nat.le_of_ble_eq_true rfl, Nat.le_of_ble_eq_true rfl⟩ ⟨Nat.le_of_ble_eq_true rfl, Nat.le_of_ble_eq_true rfl⟩ (fun v_2 h_3 n_2 q_2 z_2 => ?_)
      obtain ⟨rfl, z_2, o_2⟩ := q_2
      have f_2 := (o_2 m (by omega)).trans f_1
      refine aw_goto (tgt := 52) dX9_ofDeck_44 (by decide) ?_
      have hs : sOfDeck σ x w = (.inl (some (.int (nI (ofDk (l, ps, sc) u)))), σ) := by unfold sOfDeck; rw [if_pos hx, if_pos hw, hdI, hwu, nI_nat (by omega)]
      exact aw_ireturn dX9_ofDeck_52 rfl (mAsk hσ.1 hσ.2.1 hM (by omega) f_2 (fun q hq hqm => ((o_2 q (by omega)).trans (o_1 q (by omega)))) hs rfl) (Nat.le_of_ble_eq_true rfl) (Nat.le_of_ble_eq_true rfl)
  · skip
    refine aw_aload_n dX9_ofDeck_13 rfl ?_
    refine aw_ic dX9_ofDeck_14 ic_1 ?_
    refine aw_callVQ (As := [.int (nI (1))]) (rest := []) (c_X9_refuse G f_1) kX9_refuse w_757 f_1 rfl rfl rfl rfl (Nat.le_of_ble_eq_true rfl) dX9_ofDeck_15 ⟨Nat.le_of_ble_eq_true rfl, Nat.le_of_ble_eq_true rfl⟩ ⟨Nat.le_of_ble_eq_true rfl, Nat.le_of_ble_eq_true rfl⟩ (fun v_3 h_4 n_3 q_3 z_3 => ?_)
    obtain ⟨rfl, rfl, qm, qo⟩ := q_3
    have hs : sOfDeck σ x w = (.inr xIOB, σ) := by unfold sOfDeck; rw [hx]; rfl
    exact aw_ireturn dX9_ofDeck_18 rfl (mAsk hσ.1 hσ.2.1 hM (by omega) qm (fun q hq hqm => ((qo q (by omega)).trans (o_1 q (by omega)))) hs (mR cdA_iob)) (Nat.le_of_ble_eq_true rfl) (Nat.le_of_ble_eq_true rfl)
set_option maxHeartbeats 4000000 in
set_option maxRecDepth 20000 in
/-- alike -/
theorem m_X9_alike (G : aG) {h : aH} {nx m c : Nat} {own : Nat → Nat} {σ : aSg} {th : Int32} (hM : MAt G own h nx m σ th) (hσ : sgOk c σ) (hc9 : c ≤ 512) (x y : Int32) : aMet G mX9_alike 5 0 0 [.ref (m), .int (x), .int (y)] h nx (mPo G own h nx m cdA (.int (nI 0)) (sAlike σ x y)) := by
  have h4 := hσ.1
  have h5 := hσ.2.1
  have hmn := own_lt hM.1 (b := m) (by rw [hM.2.1]; decide)
  refine aMet_of rfl (Nat.le_of_ble_eq_true rfl) ?_
  show aw G mX9_alike [] (aRoom 5 0 0) (aEnd G (mPo G own h nx m cdA (.int (nI 0)) (sAlike σ x y)) 0 0) 0 0 h nx 0 [(0, .ref (m)), (1, .int (x)), (2, .int (y))] []
  have w_1M := hM
  obtain ⟨w_1o, w_1m, ⟨w_1s, w_1f⟩, -⟩ := w_1M
  refine aw_aload_n dX9_alike_0 rfl ?_
  refine aw_ic dX9_alike_1 ic_0 ?_
  refine aw_putV (v := .int (nI (0))) (ty := .int) (fs' := [.int (nI (0)), .ref (m + 1), .ref (m + 2), .int (nI (σ.2.2)), .long (w_1s)]) 0 w_1f rfl rfl (by decide) (by decide +kernel) rfl rfl rfl (Nat.le_of_ble_eq_true rfl) rfl w_730 dX9_alike_2 (fun h_1 f_1 o_1 => ?_)
  refine aw_aload_n dX9_alike_5 rfl ?_
  refine aw_iload_n dX9_alike_6 rfl ?_
  have hM1 := hM.th hσ.1 hσ.2.1 (Nat.le_refl _) f_1 (fun q hq hqm => (o_1 q (by omega)))
  refine aw_callVR (As := [.int (x)]) (rest := []) (c_X9_isDeck G hM1 hσ hc9 x) kX9_isDeck w_850 f_1 rfl rfl rfl rfl (Nat.le_of_ble_eq_true rfl) dX9_alike_7 ⟨Nat.le_of_ble_eq_true rfl, Nat.le_of_ble_eq_true rfl⟩ ⟨Nat.le_of_ble_eq_true rfl, Nat.le_of_ble_eq_true rfl⟩ ?_
  refine aw_if_eqB (tgt := 49) dX9_alike_10 (by decide) (fun hx => ?_) (fun hx => ?_)
  · skip
    refine aw_aload_n dX9_alike_49 rfl ?_
    refine aw_ic dX9_alike_50 ic_1 ?_
    refine aw_callVQ (As := [.int (nI (1))]) (rest := []) (c_X9_refuse G f_1) kX9_refuse w_757 f_1 rfl rfl rfl rfl (Nat.le_of_ble_eq_true rfl) dX9_alike_51 ⟨Nat.le_of_ble_eq_true rfl, Nat.le_of_ble_eq_true rfl⟩ ⟨Nat.le_of_ble_eq_true rfl, Nat.le_of_ble_eq_true rfl⟩ (fun v_1 h_2 n_1 q_1 z_1 => ?_)
    obtain ⟨rfl, rfl, qm, qo⟩ := q_1
    have hs : sAlike σ x y = (.inr xIOB, σ) := by unfold sAlike; rw [hx]; rfl
    exact aw_ireturn dX9_alike_54 rfl (mAsk hσ.1 hσ.2.1 hM (by omega) qm (fun q hq hqm => ((qo q (by omega)).trans (o_1 q (by omega)))) hs (mR cdA_iob)) (Nat.le_of_ble_eq_true rfl) (Nat.le_of_ble_eq_true rfl)
  · skip
    refine aw_aload_n dX9_alike_13 rfl ?_
    refine aw_iload_n dX9_alike_14 rfl ?_
    refine aw_callVR (As := [.int (y)]) (rest := []) (c_X9_isDeck G hM1 hσ hc9 y) kX9_isDeck w_850 f_1 rfl rfl rfl rfl (Nat.le_of_ble_eq_true rfl) dX9_alike_15 ⟨Nat.le_of_ble_eq_true rfl, Nat.le_of_ble_eq_true rfl⟩ ⟨Nat.le_of_ble_eq_true rfl, Nat.le_of_ble_eq_true rfl⟩ ?_
    refine aw_if_eqB (tgt := 49) dX9_alike_18 (by decide) (fun hy => ?_) (fun hy => ?_)
    · skip
      refine aw_aload_n dX9_alike_49 rfl ?_
      refine aw_ic dX9_alike_50 ic_1 ?_
      refine aw_callVQ (As := [.int (nI (1))]) (rest := []) (c_X9_refuse G f_1) kX9_refuse w_757 f_1 rfl rfl rfl rfl (Nat.le_of_ble_eq_true rfl) dX9_alike_51 ⟨Nat.le_of_ble_eq_true rfl, Nat.le_of_ble_eq_true rfl⟩ ⟨Nat.le_of_ble_eq_true rfl, Nat.le_of_ble_eq_true rfl⟩ (fun v_2 h_3 n_2 q_2 z_2 => ?_)
      obtain ⟨rfl, rfl, qm, qo⟩ := q_2
      have hs : sAlike σ x y = (.inr xIOB, σ) := by unfold sAlike; rw [hx, hy]; rfl
      exact aw_ireturn dX9_alike_54 rfl (mAsk hσ.1 hσ.2.1 hM (by omega) qm (fun q hq hqm => ((qo q (by omega)).trans (o_1 q (by omega)))) hs (mR cdA_iob)) (Nat.le_of_ble_eq_true rfl) (Nat.le_of_ble_eq_true rfl)
    · skip
      obtain ⟨i, dk, a, b, ds, l, ps, sc, hi4, hi, hxi, hdI, hDL, hids, hds4, hdk, hC, hb, hbm, hl2, hl16, hc, ha, hsc, hDD⟩ := hM1.deck hσ hc9 hx
      obtain ⟨i2, dk2, a2, b2, ds2, l2, ps2, sc2, hi42, hi2, hxi2, hdI2, hDL2, hids2, hds42, hdk2, hC2, hb2, hbm2, hl22, hl162, hc2, ha2, hsc2, hDD2⟩ := hM1.deck hσ hc9 hy
      refine aw_aload_n dX9_alike_21 rfl ?_
      refine aw_get 1 f_1 rfl rfl (by decide) w_731 rfl dX9_alike_22 ?_
      refine aw_iload_n dX9_alike_25 rfl ?_
      have hL_1 := hDL
      obtain ⟨u_11, u_1m, u_1e, u_12, u_13, u_14⟩ := hL_1
      refine aw_top (show (x) = (nI (i)) from hxi) ?_
      refine aw_callVR (As := [.int (nI (i))]) (rest := []) (c_Lget G hDL hids (by omega)) kJx4a65c_get_915e3 w_854 u_12 rfl rfl rfl rfl (Nat.le_of_ble_eq_true rfl) dX9_alike_26 ⟨Nat.le_of_ble_eq_true rfl, Nat.le_of_ble_eq_true rfl⟩ ⟨Nat.le_of_ble_eq_true rfl, Nat.le_of_ble_eq_true rfl⟩ ?_
      rw [hdk]
      have hC_1 := hC
      obtain ⟨y_1f, y_1g, y_11, y_12, y_13, y_1v⟩ := hC_1
      refine aw_castO y_11 rfl rfl w_765 dX9_alike_29 ?_
      refine aw_aload_n dX9_alike_32 rfl ?_
      refine aw_get 1 f_1 rfl rfl (by decide) w_731 rfl dX9_alike_33 ?_
      refine aw_iload_n dX9_alike_36 rfl ?_
      have hL_2 := hDL2
      obtain ⟨u_21, u_2m, u_2e, u_22, u_23, u_24⟩ := hL_2
      refine aw_top (show (y) = (nI (i2)) from hxi2) ?_
      refine aw_callVR (As := [.int (nI (i2))]) (rest := [.ref (dk)]) (c_Lget G hDL2 hids2 (by omega)) kJx4a65c_get_915e3 w_854 u_22 rfl rfl rfl rfl (Nat.le_of_ble_eq_true rfl) dX9_alike_37 ⟨Nat.le_of_ble_eq_true rfl, Nat.le_of_ble_eq_true rfl⟩ ⟨Nat.le_of_ble_eq_true rfl, Nat.le_of_ble_eq_true rfl⟩ ?_
      rw [hdk2]
      have hC_2 := hC2
      obtain ⟨y_2f, y_2g, y_21, y_22, y_23, y_2v⟩ := hC_2
      refine aw_castO y_21 rfl rfl w_765 dX9_alike_40 ?_
      refine aw_callSR (As := [.ref (dk), .ref (dk2)]) (rest := []) (c_X9_alikeNow G hC hc hl16 hC2 hc2 hl162) kX9_alikeNow w_1112 rfl rfl (Nat.le_of_ble_eq_true rfl) dX9_alike_43 ⟨Nat.le_of_ble_eq_true rfl, Nat.le_of_ble_eq_true rfl⟩ ⟨Nat.le_of_ble_eq_true rfl, Nat.le_of_ble_eq_true rfl⟩ ?_
      refine aw_goto (tgt := 54) dX9_alike_46 (by decide) ?_
      have hs : sAlike σ x y = (.inl (some (.int (nI (alk l l2 (min l.length l2.length))))), σ) := by unfold sAlike; rw [if_pos hx, if_pos hy, hdI, hdI2]
      exact aw_ireturn dX9_alike_54 rfl (mAsk hσ.1 hσ.2.1 hM (by omega) f_1 (fun q hq hqm => (o_1 q (by omega))) hs rfl) (Nat.le_of_ble_eq_true rfl) (Nat.le_of_ble_eq_true rfl)
set_option maxHeartbeats 4000000 in
set_option maxRecDepth 20000 in
/-- best -/
theorem m_X9_best (G : aG) {h : aH} {nx m c : Nat} {own : Nat → Nat} {σ : aSg} {th : Int32} (hM : MAt G own h nx m σ th) (hσ : sgOk c σ) (hc9 : c ≤ 512) (x : Int32) : aMet G mX9_best 5 15 170 [.ref (m), .int (x)] h nx (mPo G own h nx m cdA (.int (nI 0)) (sBest σ x)) := by
  have h4 := hσ.1
  have h5 := hσ.2.1
  have hmn := own_lt hM.1 (b := m) (by rw [hM.2.1]; decide)
  refine aMet_of rfl (Nat.le_of_ble_eq_true rfl) ?_
  show aw G mX9_best [] (aRoom 5 15 170) (aEnd G (mPo G own h nx m cdA (.int (nI 0)) (sBest σ x)) 15 170) 0 0 h nx 0 [(0, .ref (m)), (1, .int (x))] []
  have w_1M := hM
  obtain ⟨w_1o, w_1m, ⟨w_1s, w_1f⟩, -⟩ := w_1M
  refine aw_aload_n dX9_best_0 rfl ?_
  refine aw_ic dX9_best_1 ic_0 ?_
  refine aw_putV (v := .int (nI (0))) (ty := .int) (fs' := [.int (nI (0)), .ref (m + 1), .ref (m + 2), .int (nI (σ.2.2)), .long (w_1s)]) 0 w_1f rfl rfl (by decide) (by decide +kernel) rfl rfl rfl (Nat.le_of_ble_eq_true rfl) rfl w_730 dX9_best_2 (fun h_1 f_1 o_1 => ?_)
  refine aw_aload_n dX9_best_5 rfl ?_
  refine aw_iload_n dX9_best_6 rfl ?_
  have hM1 := hM.th hσ.1 hσ.2.1 (Nat.le_refl _) f_1 (fun q hq hqm => (o_1 q (by omega)))
  refine aw_callVR (As := [.int (x)]) (rest := []) (c_X9_isDeck G hM1 hσ hc9 x) kX9_isDeck w_850 f_1 rfl rfl rfl rfl (Nat.le_of_ble_eq_true rfl) dX9_best_7 ⟨Nat.le_of_ble_eq_true rfl, Nat.le_of_ble_eq_true rfl⟩ ⟨Nat.le_of_ble_eq_true rfl, Nat.le_of_ble_eq_true rfl⟩ ?_
  refine aw_if_eqB (tgt := 30) dX9_best_10 (by decide) (fun hx => ?_) (fun hx => ?_)
  · skip
    refine aw_aload_n dX9_best_30 rfl ?_
    refine aw_ic dX9_best_31 ic_1 ?_
    refine aw_callVQ (As := [.int (nI (1))]) (rest := []) (c_X9_refuse G f_1) kX9_refuse w_757 f_1 rfl rfl rfl rfl (Nat.le_of_ble_eq_true rfl) dX9_best_32 ⟨Nat.le_of_ble_eq_true rfl, Nat.le_of_ble_eq_true rfl⟩ ⟨Nat.le_of_ble_eq_true rfl, Nat.le_of_ble_eq_true rfl⟩ (fun v_1 h_2 n_1 q_1 z_1 => ?_)
    obtain ⟨rfl, rfl, qm, qo⟩ := q_1
    have hs : sBest σ x = (.inr xIOB, σ) := by unfold sBest; rw [hx]; rfl
    exact aw_ireturn dX9_best_35 rfl (mAsk hσ.1 hσ.2.1 hM (by omega) qm (fun q hq hqm => ((qo q (by omega)).trans (o_1 q (by omega)))) hs (mR cdA_iob)) (Nat.le_of_ble_eq_true rfl) (Nat.le_of_ble_eq_true rfl)
  · skip
    obtain ⟨i, dk, a, b, ds, l, ps, sc, hi4, hi, hxi, hdI, hDL, hids, hds4, hdk, hC, hb, hbm, hl2, hl16, hc, ha, hsc, hDD⟩ := hM1.deck hσ hc9 hx
    refine aw_aload_n dX9_best_13 rfl ?_
    refine aw_get 1 f_1 rfl rfl (by decide) w_731 rfl dX9_best_14 ?_
    refine aw_iload_n dX9_best_17 rfl ?_
    have hL_1 := hDL
    obtain ⟨u_11, u_1m, u_1e, u_12, u_13, u_14⟩ := hL_1
    refine aw_top (show (x) = (nI (i)) from hxi) ?_
    refine aw_callVR (As := [.int (nI (i))]) (rest := []) (c_Lget G hDL hids (by omega)) kJx4a65c_get_915e3 w_854 u_12 rfl rfl rfl rfl (Nat.le_of_ble_eq_true rfl) dX9_best_18 ⟨Nat.le_of_ble_eq_true rfl, Nat.le_of_ble_eq_true rfl⟩ ⟨Nat.le_of_ble_eq_true rfl, Nat.le_of_ble_eq_true rfl⟩ ?_
    rw [hdk]
    have hC_1 := hC
    obtain ⟨y_1f, y_1g, y_11, y_12, y_13, y_1v⟩ := hC_1
    refine aw_castO y_11 rfl rfl w_765 dX9_best_21 ?_
    refine aw_callSQ (As := [.ref (dk)]) (rest := []) (c_X9_bestNow G hC hc hl16 hb hl2) kX9_bestNow w_1163 rfl rfl (Nat.le_of_ble_eq_true rfl) dX9_best_24 ⟨Nat.le_of_ble_eq_true rfl, Nat.le_of_ble_eq_true rfl⟩ ⟨Nat.le_of_ble_eq_true rfl, Nat.le_of_ble_eq_true rfl⟩ (fun v_2 h_3 n_2 q_2 z_2 => ?_)
    obtain ⟨rfl, z_2, o_2⟩ := q_2
    have f_2 := (o_2 m (by omega)).trans f_1
    refine aw_goto (tgt := 35) dX9_best_27 (by decide) ?_
    have hs : sBest σ x = (.inl (some (.int (bestV l))), σ) := by unfold sBest; rw [if_pos hx, hdI]
    exact aw_ireturn dX9_best_35 rfl (mAsk hσ.1 hσ.2.1 hM (by omega) f_2 (fun q hq hqm => ((o_2 q (by omega)).trans (o_1 q (by omega)))) hs rfl) (Nat.le_of_ble_eq_true rfl) (Nat.le_of_ble_eq_true rfl)
set_option maxHeartbeats 4000000 in
set_option maxRecDepth 20000 in
/-- goes -/
theorem m_X9_goes (G : aG) {h : aH} {nx m c : Nat} {own : Nat → Nat} {σ : aSg} {th : Int32} (hM : MAt G own h nx m σ th) (hσ : sgOk c σ) (hc9 : c ≤ 512) (x p k n : Int32) : aMet G mX9_goes 5 3 34 [.ref (m), .int (x), .int (p), .int (k), .int (n)] h nx (mPo G own h nx m cdA (.int (nI 0)) (sGoes σ x p k n)) := by
  have h4 := hσ.1
  have h5 := hσ.2.1
  have hmn := own_lt hM.1 (b := m) (by rw [hM.2.1]; decide)
  refine aMet_of rfl (Nat.le_of_ble_eq_true rfl) ?_
  show aw G mX9_goes [] (aRoom 5 3 34) (aEnd G (mPo G own h nx m cdA (.int (nI 0)) (sGoes σ x p k n)) 3 34) 0 0 h nx 0 [(0, .ref (m)), (1, .int (x)), (2, .int (p)), (3, .int (k)), (4, .int (n))] []
  have w_1M := hM
  obtain ⟨w_1o, w_1m, ⟨w_1s, w_1f⟩, -⟩ := w_1M
  refine aw_aload_n dX9_goes_0 rfl ?_
  refine aw_ic dX9_goes_1 ic_0 ?_
  refine aw_putV (v := .int (nI (0))) (ty := .int) (fs' := [.int (nI (0)), .ref (m + 1), .ref (m + 2), .int (nI (σ.2.2)), .long (w_1s)]) 0 w_1f rfl rfl (by decide) (by decide +kernel) rfl rfl rfl (Nat.le_of_ble_eq_true rfl) rfl w_730 dX9_goes_2 (fun h_1 f_1 o_1 => ?_)
  refine aw_aload_n dX9_goes_5 rfl ?_
  refine aw_iload_n dX9_goes_6 rfl ?_
  refine aw_iload_n dX9_goes_7 rfl ?_
  have hM1 := hM.th hσ.1 hσ.2.1 (Nat.le_refl _) f_1 (fun q hq hqm => (o_1 q (by omega)))
  refine aw_callVR (As := [.int (x), .int (p)]) (rest := []) (c_X9_isPlace G hM1 hσ hc9 x p) kX9_isPlace w_937 f_1 rfl rfl rfl rfl (Nat.le_of_ble_eq_true rfl) dX9_goes_8 ⟨Nat.le_of_ble_eq_true rfl, Nat.le_of_ble_eq_true rfl⟩ ⟨Nat.le_of_ble_eq_true rfl, Nat.le_of_ble_eq_true rfl⟩ ?_
  refine aw_if_neB (tgt := 20) dX9_goes_11 (by decide) (fun c1 => ?_) (fun c1 => ?_)
  · skip
    have c2 := Bool.and_eq_true_iff.mp c1
    obtain ⟨hx, hp⟩ := c2
    obtain ⟨i, dk, a, b, ds, l, ps, sc, hi4, hi, hxi, hdI, hDL, hids, hds4, hdk, hC, hb, hbm, hl2, hl16, hc, ha, hsc, hDD⟩ := hM1.deck hσ hc9 hx
    have hp2 := hp
    rw [hdI] at hp2
    have hp2 : inP l p = true := hp2
    obtain ⟨j, hj, hpj⟩ := inP_nat hp2 hl16
    have hjN : p.toInt.toNat = j := by rw [hpj]; exact nI_nat (by omega)
    refine aw_aload_n dX9_goes_20 rfl ?_
    refine aw_get 1 f_1 rfl rfl (by decide) w_731 rfl dX9_goes_21 ?_
    refine aw_iload_n dX9_goes_24 rfl ?_
    have hL_1 := hDL
    obtain ⟨u_11, u_1m, u_1e, u_12, u_13, u_14⟩ := hL_1
    refine aw_top (show (x) = (nI (i)) from hxi) ?_
    refine aw_callVR (As := [.int (nI (i))]) (rest := []) (c_Lget G hDL hids (by omega)) kJx4a65c_get_915e3 w_854 u_12 rfl rfl rfl rfl (Nat.le_of_ble_eq_true rfl) dX9_goes_25 ⟨Nat.le_of_ble_eq_true rfl, Nat.le_of_ble_eq_true rfl⟩ ⟨Nat.le_of_ble_eq_true rfl, Nat.le_of_ble_eq_true rfl⟩ ?_
    rw [hdk]
    have hC_1 := hC
    obtain ⟨y_1f, y_1g, y_11, y_12, y_13, y_1v⟩ := hC_1
    refine aw_castO y_11 rfl rfl w_765 dX9_goes_28 ?_
    refine aw_callVR (As := []) (rest := []) (c_X7_size G hC hc hl16) kX7_size w_868 y_11 rfl rfl rfl rfl (Nat.le_of_ble_eq_true rfl) dX9_goes_31 ⟨Nat.le_of_ble_eq_true rfl, Nat.le_of_ble_eq_true rfl⟩ ⟨Nat.le_of_ble_eq_true rfl, Nat.le_of_ble_eq_true rfl⟩ ?_
    refine aw_istore (L' := [(5, .int (nI (l.length))), (0, .ref (m)), (1, .int (x)), (2, .int (p)), (3, .int (k)), (4, .int (n))]) dX9_goes_34 (by decide) rfl ?_
    refine aw_iload_n dX9_goes_36 rfl ?_
    refine aw_iload dX9_goes_37 rfl ?_
    refine aw_iload dX9_goes_39 rfl ?_
    refine aw_callSR (As := [.int (k), .int (n), .int (nI (l.length))]) (rest := []) (c_X9_isShuffle G k n ⟨hl2, hl16⟩) kX9_isShuffle w_872 rfl rfl (Nat.le_of_ble_eq_true rfl) dX9_goes_41 ⟨Nat.le_of_ble_eq_true rfl, Nat.le_of_ble_eq_true rfl⟩ ⟨Nat.le_of_ble_eq_true rfl, Nat.le_of_ble_eq_true rfl⟩ ?_
    refine aw_if_eqB (tgt := 62) dX9_goes_44 (by decide) (fun hO => ?_) (fun hO => ?_)
    · skip
      refine aw_aload_n dX9_goes_62 rfl ?_
      refine aw_ic dX9_goes_63 ic_2 ?_
      refine aw_callVQ (As := [.int (nI (2))]) (rest := []) (c_X9_refuse G f_1) kX9_refuse w_757 f_1 rfl rfl rfl rfl (Nat.le_of_ble_eq_true rfl) dX9_goes_64 ⟨Nat.le_of_ble_eq_true rfl, Nat.le_of_ble_eq_true rfl⟩ ⟨Nat.le_of_ble_eq_true rfl, Nat.le_of_ble_eq_true rfl⟩ (fun v_1 h_2 n_1 q_1 z_1 => ?_)
      obtain ⟨rfl, rfl, qm, qo⟩ := q_1
      have hs : sGoes σ x p k n = (.inr xIAE, σ) := by unfold sGoes; rw [if_pos hx, if_pos hp, hdI, if_neg (by rw [hO]; decide)]
      exact aw_ireturn dX9_goes_67 rfl (mAsk hσ.1 hσ.2.1 hM (by omega) qm (fun q hq hqm => ((qo q (by omega)).trans (o_1 q (by omega)))) hs (mR cdA_iae)) (Nat.le_of_ble_eq_true rfl) (Nat.le_of_ble_eq_true rfl)
    · skip
      obtain ⟨ka, na, hka, hna, hOn, hkN, hnN⟩ := isO_nI hO
      refine aw_iload_n dX9_goes_47 rfl ?_
      refine aw_top (show (k) = (nI (ka)) from hka) ?_
      refine aw_iload dX9_goes_48 rfl ?_
      refine aw_top (show (n) = (nI (na)) from hna) ?_
      refine aw_iload dX9_goes_50 rfl ?_
      refine aw_callSQ (As := [.int (nI (ka)), .int (nI (na)), .int (nI (l.length))]) (rest := []) (c_X9_way G (k := ka) (m := na) ⟨hl2, hl16⟩ hOn) kX9_way w_876 rfl rfl (Nat.le_of_ble_eq_true rfl) dX9_goes_52 ⟨Nat.le_of_ble_eq_true rfl, Nat.le_of_ble_eq_true rfl⟩ ⟨Nat.le_of_ble_eq_true rfl, Nat.le_of_ble_eq_true rfl⟩ (fun v_2 h_3 n_2 q_2 z_2 => ?_)
      obtain ⟨rfl, rfl, hW, oW⟩ := q_2
      have fm9 := (oW m (by omega)).trans f_1
      have hW0 := hW
      obtain ⟨y_2f, y_2g, y_21, y_22, y_23, y_2v⟩ := hW0
      refine aw_iload_n dX9_goes_55 rfl ?_
      refine aw_top (show (p) = (nI (j)) from hpj) ?_
      have hlc := lay_cOk hOn
      refine aw_callVR (As := [.int (nI (j))]) (rest := []) (c_X8_to G hW hlc hl16 (lay_cAll hOn j hj)) kX8_to w_1155 y_21 rfl rfl rfl rfl (Nat.le_of_ble_eq_true rfl) dX9_goes_56 ⟨Nat.le_of_ble_eq_true rfl, Nat.le_of_ble_eq_true rfl⟩ ⟨Nat.le_of_ble_eq_true rfl, Nat.le_of_ble_eq_true rfl⟩ ?_
      refine aw_goto (tgt := 67) dX9_goes_59 (by decide) ?_
      have hs : sGoes σ x p k n = (.inl (some (.int (nI (ixOf (layL ka na l.length) j)))), σ) := by unfold sGoes; rw [if_pos hx, if_pos hp, hdI, if_pos hO, hkN, hnN, hjN]
      exact aw_ireturn dX9_goes_67 rfl (mAsk hσ.1 hσ.2.1 hM (by omega) fm9 (fun q hq hqm => ((oW q (by omega)).trans (o_1 q (by omega)))) hs rfl) (Nat.le_of_ble_eq_true rfl) (Nat.le_of_ble_eq_true rfl)
  · skip
    refine aw_aload_n dX9_goes_14 rfl ?_
    refine aw_ic dX9_goes_15 ic_1 ?_
    refine aw_callVQ (As := [.int (nI (1))]) (rest := []) (c_X9_refuse G f_1) kX9_refuse w_757 f_1 rfl rfl rfl rfl (Nat.le_of_ble_eq_true rfl) dX9_goes_16 ⟨Nat.le_of_ble_eq_true rfl, Nat.le_of_ble_eq_true rfl⟩ ⟨Nat.le_of_ble_eq_true rfl, Nat.le_of_ble_eq_true rfl⟩ (fun v_3 h_4 n_3 q_3 z_3 => ?_)
    obtain ⟨rfl, rfl, qm, qo⟩ := q_3
    have hs : sGoes σ x p k n = (.inr xIOB, σ) := by unfold sGoes; cases hx : inD σ x with | false => rfl | true => rw [if_pos rfl, if_neg (by rw [hx] at c1; intro w; rw [w] at c1; exact absurd c1 (by decide))]
    exact aw_ireturn dX9_goes_19 rfl (mAsk hσ.1 hσ.2.1 hM (by omega) qm (fun q hq hqm => ((qo q (by omega)).trans (o_1 q (by omega)))) hs (mR cdA_iob)) (Nat.le_of_ble_eq_true rfl) (Nat.le_of_ble_eq_true rfl)
