theorem xor1_mod (a : Nat) : decide ((a ^^^ 1) % 2 = 1) = !decide (a % 2 = 1) := by
  have e := Nat.xor_mod_two_eq_one (a := a) (b := 1)
  by_cases q : a % 2 = 1
  · rw [decide_eq_true q, decide_eq_false (fun z => by have := e.mp z; omega)]; rfl
  · rw [decide_eq_false q, decide_eq_true (e.mpr (by omega))]; rfl
set_option maxHeartbeats 4000000 in
set_option maxRecDepth 20000 in
/-- turn -/
theorem m_X9_turn (G : aG) {h : aH} {nx m c : Nat} {own : Nat → Nat} {σ : aSg} {th : Int32} (hM : MAt G own h nx m σ th) (hσ : sgOk c σ) (hc9 : c ≤ 512) (x p : Int32) : aMet G mX9_turn 6 1 16 [.ref (m), .int (x), .int (p)] h nx (mPo G own h nx m cdA (.int (bI false)) (sTurn σ x p)) := by
  have h4 := hσ.1
  have h5 := hσ.2.1
  have hmn := own_lt hM.1 (b := m) (by rw [hM.2.1]; decide)
  refine aMet_of rfl (Nat.le_of_ble_eq_true rfl) ?_
  show aw G mX9_turn [] (aRoom 6 1 16) (aEnd G (mPo G own h nx m cdA (.int (bI false)) (sTurn σ x p)) 1 16) 0 0 h nx 0 [(0, .ref (m)), (1, .int (x)), (2, .int (p))] []
  have w_1M := hM
  obtain ⟨w_1o, w_1m, ⟨w_1s, w_1f⟩, -⟩ := w_1M
  refine aw_aload_n dX9_turn_0 rfl ?_
  refine aw_aload_n dX9_turn_1 rfl ?_
  refine aw_iload_n dX9_turn_2 rfl ?_
  refine aw_iload_n dX9_turn_3 rfl ?_
  refine aw_callVR (As := [.int (x), .int (p)]) (rest := [.ref (m)]) (c_X9_isPlace G hM hσ hc9 x p) kX9_isPlace w_937 w_1f rfl rfl rfl rfl (Nat.le_of_ble_eq_true rfl) dX9_turn_4 ⟨Nat.le_of_ble_eq_true rfl, Nat.le_of_ble_eq_true rfl⟩ ⟨Nat.le_of_ble_eq_true rfl, Nat.le_of_ble_eq_true rfl⟩ ?_
  refine aw_if_eqB (tgt := 14) dX9_turn_7 (by decide) (fun c1 => ?_) (fun c1 => ?_)
  · skip
    refine aw_ic dX9_turn_14 ic_1 ?_
    refine aw_putV (v := .int (nI (1))) (ty := .int) (fs' := [.int (nI (1)), .ref (m + 1), .ref (m + 2), .int (nI (σ.2.2)), .long (w_1s)]) 0 w_1f rfl rfl (by decide) (by decide +kernel) rfl rfl rfl (Nat.le_of_ble_eq_true rfl) rfl w_730 dX9_turn_15 (fun h_1 f_1 o_1 => ?_)
    refine aw_aload_n dX9_turn_18 rfl ?_
    refine aw_get 0 f_1 rfl rfl (by decide) w_730 rfl dX9_turn_19 ?_
    refine aw_if_leN (tgt := 27) (by omega) dX9_turn_22 (by decide) (fun cz => absurd cz (by omega)) (fun cz => ?_)
    refine aw_ic dX9_turn_25 ic_0 ?_
    refine aw_top (show nI 0 = bI false from rfl) ?_
    have hs : sTurn σ x p = (.inr xIOB, σ) := by unfold sTurn; cases hx : inD σ x with | false => rfl | true => rw [if_pos rfl, if_neg (by rw [hx] at c1; intro w; rw [w] at c1; exact absurd c1 (by decide))]
    exact aw_zreturn dX9_turn_26 rfl (bI_nar false) (mAsk hσ.1 hσ.2.1 hM (by omega) f_1 (fun q hq hqm => (o_1 q (by omega))) hs (mR cdA_iob)) (Nat.le_of_ble_eq_true rfl) (Nat.le_of_ble_eq_true rfl)
  · skip
    refine aw_ic dX9_turn_10 ic_0 ?_
    refine aw_goto (tgt := 15) dX9_turn_11 (by decide) ?_
    refine aw_putV (v := .int (nI (0))) (ty := .int) (fs' := [.int (nI (0)), .ref (m + 1), .ref (m + 2), .int (nI (σ.2.2)), .long (w_1s)]) 0 w_1f rfl rfl (by decide) (by decide +kernel) rfl rfl rfl (Nat.le_of_ble_eq_true rfl) rfl w_730 dX9_turn_15 (fun h_2 f_2 o_2 => ?_)
    have hM1 := hM.th hσ.1 hσ.2.1 (Nat.le_refl _) f_2 (fun q hq hqm => (o_2 q (by omega)))
    have F1 : Fr own own h h_2 nx nx KM := ⟨Nat.le_refl _, fun _ _ => rfl, hM.1, fun b hb => Or.inl (hM.1 b hb), fun q hq hk => (o_2 q (fun z => hk (by rw [z, hM.2.1]; decide)))⟩
    refine aw_aload_n dX9_turn_18 rfl ?_
    refine aw_get 0 f_2 rfl rfl (by decide) w_730 rfl dX9_turn_19 ?_
    refine aw_if_leN (tgt := 27) (by omega) dX9_turn_22 (by decide) (fun cz => ?_) (fun cz => absurd cz (by omega))
    have c2 := Bool.and_eq_true_iff.mp c1
    obtain ⟨hx, hp⟩ := c2
    obtain ⟨i, dk, a, b, ds, l, ps, sc, hi4, hi, hxi, hdI, hDL, hids, hds4, hdk, hC, hb, hbm, hl2, hl16, hc, ha, hsc, hDD, hset⟩ := hM1.deckS hσ hc9 hx
    have hp2 := hp
    rw [hdI] at hp2
    have hp2 : inP l p = true := hp2
    obtain ⟨j, hj, hpj⟩ := inP_nat hp2 hl16
    have hjN : p.toInt.toNat = j := by rw [hpj]; exact nI_nat (by omega)
    refine aw_aload_n dX9_turn_27 rfl ?_
    refine aw_get 1 f_2 rfl rfl (by decide) w_731 rfl dX9_turn_28 ?_
    refine aw_iload_n dX9_turn_31 rfl ?_
    have hL_1 := hDL
    obtain ⟨u_11, u_1m, u_1e, u_12, u_13, u_14⟩ := hL_1
    refine aw_top (show (x) = (nI (i)) from hxi) ?_
    refine aw_callVR (As := [.int (nI (i))]) (rest := []) (c_Lget G hDL hids (by omega)) kJx4a65c_get_915e3 w_854 u_12 rfl rfl rfl rfl (Nat.le_of_ble_eq_true rfl) dX9_turn_32 ⟨Nat.le_of_ble_eq_true rfl, Nat.le_of_ble_eq_true rfl⟩ ⟨Nat.le_of_ble_eq_true rfl, Nat.le_of_ble_eq_true rfl⟩ ?_
    rw [hdk]
    have hC_1 := hC
    obtain ⟨y_1f, y_1g, y_11, y_12, y_13, y_1v⟩ := hC_1
    refine aw_castO y_11 rfl rfl w_765 dX9_turn_35 ?_
    refine aw_astore_n (L' := [(3, .ref (dk)), (0, .ref (m)), (1, .int (x)), (2, .int (p))]) dX9_turn_38 (by decide) rfl ?_
    refine aw_aload_n dX9_turn_39 rfl ?_
    refine aw_getN 1 y_11 rfl rfl (by decide) w_776 rfl dX9_turn_40 ?_
    refine aw_cloneZ y_13 (fun i hi => ⟨_, (y_1v i hi).2⟩) w_941 (Nat.le_of_ble_eq_true rfl) (show 0 + l.length ≤ 16 by omega) (Nat.le_of_ble_eq_true rfl) (Nat.le_of_ble_eq_true rfl) dX9_turn_43 (fun h_3 f_3 o_3 => ?_)
    have f_4 := (o_3 m (by omega)).trans f_2
    have f_5 := (o_3 dk (by omega)).trans y_11
    have f_6 := (o_3 b (by omega)).trans y_13
    refine aw_castZ f_3 w_947 dX9_turn_46 ?_
    refine aw_widen (cells' := 1) (slots' := 16) (by omega) (by omega) ?_
    refine aw_astore (L' := [(4, .ref (nx)), (3, .ref (dk)), (0, .ref (m)), (1, .int (x)), (2, .int (p))]) dX9_turn_49 (by decide) rfl ?_
    refine aw_aload dX9_turn_51 rfl ?_
    refine aw_iload_n dX9_turn_53 rfl ?_
    refine aw_top (show (p) = (nI (j)) from hpj) ?_
    refine aw_aload dX9_turn_54 rfl ?_
    refine aw_iload_n dX9_turn_56 rfl ?_
    refine aw_top (show (p) = (nI (j)) from hpj) ?_
    refine aw_zaload f_3 (by omega) (by omega) dX9_turn_57 ?_
    refine aw_top (show (y_1g j) = (bI (decide (l.getD j 0 % 2 = 1))) from (y_1v j hj).2) ?_
    have J : ∀ e : Bool, e = decide ((l.getD j 0 ^^^ 1) % 2 = 1) → aw G mX9_turn [] (aRoom 6 1 16) (aEnd G (mPo G own h nx m cdA (.int (bI false)) (sTurn σ x p)) 1 16) 1 16 h_3 (nx + 1) 66 [(4, .ref (nx)), (3, .ref (dk)), (0, .ref (m)), (1, .int (x)), (2, .int (p))] [.int (bI (e)), .int (nI (j)), .ref (nx)] := by
      intro e he
      refine aw_zastoreV f_3 (by omega) (by omega) (bI_nar _) dX9_turn_66 (fun h_4 f_7 o_4 => ?_)
      have f_8 := (o_4 m (by omega)).trans f_4
      have f_9 := (o_4 dk (by omega)).trans f_5
      refine aw_aload_n dX9_turn_67 rfl ?_
      refine aw_aload dX9_turn_68 rfl ?_
      refine aw_putNV (v := .ref (nx)) (ty := (.array .boolean)) (fs' := [.ref (a), .ref (nx), .ref (dk + 1), .ref (dk + 2), .int (nI (sc))]) 1 f_9 rfl rfl (by decide) (by decide +kernel) rfl rfl rfl (Nat.le_of_ble_eq_true rfl) rfl w_776 dX9_turn_70 (fun h_5 f_10 o_5 => ?_)
      have f_11 := (o_5 nx (by omega)).trans f_7
      have f_12 := (o_5 m (by omega)).trans f_8
      refine aw_aload dX9_turn_73 rfl ?_
      refine aw_iload_n dX9_turn_75 rfl ?_
      refine aw_top (show (p) = (nI (j)) from hpj) ?_
      refine aw_zaload f_11 (by omega) (by omega) dX9_turn_76 ?_
      refine aw_top (show upd y_1g j (bI e) j = bI e from if_pos rfl) ?_
      have oz : ∀ q, q ≠ dk → q ≠ nx → h_5 q = h_2 q := fun q g1 g2 => (o_5 q g1).trans ((o_4 q g2).trans (o_3 q g2))
      have hbb : DkAt G own h_2 i dk (l, ps, sc) := hDD
      obtain ⟨d1, d2, d2b, a9, b9, as, bs, d3, d4, d5, d6, d7, d8⟩ := hbb
      have hobj := hC.o.symm.trans d3.o
      obtain ⟨rfl, rfl⟩ : a = a9 ∧ b = b9 := by simpa using hobj
      obtain ⟨own1, h1⟩ : ∃ own1 : Nat → Nat, own1 = (fun q => if q = nx then 30 else own q) := ⟨_, rfl⟩
      have h1a : ∀ q, q ≠ nx → own1 q = own q := fun q hq => by rw [h1]; exact if_neg hq
      have h1b : own1 nx = 30 := by rw [h1]; exact if_pos rfl
      have FB : Fr own own1 h_2 h_5 nx (nx + 1) (KDk i) := ⟨by omega, fun q hq => h1a q (by omega), fun q hq => (h1a q (by omega)).trans (hM.1 q (by omega)), fun q hq => (by by_cases z : q = nx; exact Or.inr (Or.inl (by rw [z]; exact h1b)); exact Or.inl ((h1a q z).trans (hM.1 q hq))), fun q hq hk => oz q (fun z => hk (by rw [z, d1]; unfold KDk; omega)) (by omega)⟩
      have ok : ∀ q, own q ≠ 0 → own q ≠ 4 * i + 1 → h_5 q = h_2 q ∧ own1 q = own q := fun q g1 g2 => by have hq := own_lt hM.1 g1; exact ⟨oz q (fun z => g2 (by rw [z]; exact d1)) (by omega), h1a q (by omega)⟩
      have hsl : (l.set j (l.getD j 0 ^^^ 1)).length = l.length := List.length_set
      have hgo : DkAt G own1 h_5 i dk (turnD (l, ps, sc) j) := by
        refine ⟨(h1a dk (by omega)).trans d1, d2, d2b, a, nx, as, bs, CardsAt.of f_10 ⟨y_1f, ?_, ?_⟩ ⟨upd y_1g j (bI e), ?_, ?_⟩, (ok a (by omega) (by omega)).2.trans d4, h1b, d6.keep (fun q hq => ok q (by omega) (by omega)), d7.keep (fun q hq => ok q (by omega) (by omega)), d8.keep (fun q hq => ok q (by omega) (by omega))⟩
        · show _ = some (Sum.inl (0, (l.set j (l.getD j 0 ^^^ 1)).length, Sum.inl y_1f)); rw [hsl]; exact (ok a (by omega) (by omega)).1.trans y_12
        · intro t ht; have ht : t < (l.set j (l.getD j 0 ^^^ 1)).length := ht; rw [hsl] at ht; show y_1f t = nI ((l.set j (l.getD j 0 ^^^ 1)).getD t 0 / 2); rw [gD_set hj, (y_1v t ht).1]; by_cases z : t = j; rw [if_pos z, z, xor1_half _ _ (by decide)]; rw [if_neg z]
        · show _ = some (Sum.inl (1, (l.set j (l.getD j 0 ^^^ 1)).length, _)); rw [hsl]; exact f_11
        · intro t ht; have ht : t < (l.set j (l.getD j 0 ^^^ 1)).length := ht; rw [hsl] at ht; show upd y_1g j (bI e) t = bI (decide ((l.set j (l.getD j 0 ^^^ 1)).getD t 0 % 2 = 1)); rw [gD_set hj]; unfold upd; by_cases z : t = j; rw [if_pos z, if_pos z, he]; rw [if_neg z, if_neg z]; exact (y_1v t ht).2
      have hM2 := hset own1 _ _ _ FB hgo
      have hs : sTurn σ x p = (.inl (some (.int (bI e))), setD σ x (turnD (l, ps, sc) j)) := by unfold sTurn; rw [if_pos hx, if_pos hp, hdI, hjN]; show (Sum.inl (some (Value.int (bI (decide ((l.set j (l.getD j 0 ^^^ 1)).getD j 0 % 2 = 1))))), _) = _; rw [gD_set hj, if_pos rfl, he]
      exact aw_zreturn dX9_turn_77 rfl (bI_nar e) (mDid (F1.tr (FB.mono (fun j hj => ⟨by unfold KDk at hj; omega, by unfold KDk at hj; omega⟩))) hM2 hs rfl) (Nat.le_of_ble_eq_true rfl) (Nat.le_of_ble_eq_true rfl)
    refine aw_if_neB (tgt := 65) dX9_turn_58 (by decide) (fun c5 => ?_) (fun c5 => ?_)
    · skip
      refine aw_ic dX9_turn_65 ic_0 ?_
      refine aw_top (show nI 0 = bI false from rfl) ?_
      exact J false (by rw [xor1_mod, c5]; rfl)
    · skip
      refine aw_ic dX9_turn_61 ic_1 ?_
      refine aw_goto (tgt := 66) dX9_turn_62 (by decide) ?_
      refine aw_top (show nI 1 = bI true from rfl) ?_
      exact J true (by rw [xor1_mod, c5]; rfl)
set_option maxHeartbeats 4000000 in
set_option maxRecDepth 20000 in
/-- sequence -/
theorem m_X9_sequence (G : aG) {h : aH} {nx m c : Nat} {own : Nat → Nat} {σ : aSg} {th : Int32} (hM : MAt G own h nx m σ th) (hσ : sgOk c σ) (hc9 : c ≤ 512) (hG : G.2.2.2 < m)  : aMet G mX9_sequence 8 2 63 [.ref (m)] h nx (mPo G own h nx m cdC (.int (nI 0)) (sSequence σ)) := by
  have h4 := hσ.1
  have h5 := hσ.2.1
  have hmn := own_lt hM.1 (b := m) (by rw [hM.2.1]; decide)
  refine aMet_of rfl (Nat.le_of_ble_eq_true rfl) ?_
  show aw G mX9_sequence [] (aRoom 8 2 63) (aEnd G (mPo G own h nx m cdC (.int (nI 0)) (sSequence σ)) 2 63) 0 0 h nx 0 [(0, .ref (m))] []
  have w_1M := hM
  obtain ⟨w_1o, w_1m, ⟨w_1s, w_1f⟩, -⟩ := w_1M
  refine aw_aload_n dX9_sequence_0 rfl ?_
  refine aw_ic dX9_sequence_1 ic_0 ?_
  refine aw_putV (v := .int (nI (0))) (ty := .int) (fs' := [.int (nI (0)), .ref (m + 1), .ref (m + 2), .int (nI (σ.2.2)), .long (w_1s)]) 0 w_1f rfl rfl (by decide) (by decide +kernel) rfl rfl rfl (Nat.le_of_ble_eq_true rfl) rfl w_730 dX9_sequence_2 (fun h_1 f_1 o_1 => ?_)
  refine aw_aload_n dX9_sequence_5 rfl ?_
  refine aw_get 2 f_1 rfl rfl (by decide) w_732 rfl dX9_sequence_6 ?_
  have hM1 := hM.th hσ.1 hσ.2.1 (Nat.le_refl _) f_1 (fun q hq hqm => (o_1 q (by omega)))
  have F1 : Fr own own h h_1 nx nx KM := ⟨Nat.le_refl _, fun _ _ => rfl, hM.1, fun b hb => Or.inl (hM.1 b hb), fun q hq hk => (o_1 q (fun z => hk (by rw [z, hM.2.1]; decide)))⟩
  obtain ⟨ss, hSL, hsn, hel, hset⟩ := hM1.seqsS h4 h5
  have hL_1 := hSL
  obtain ⟨u_11, u_1m, u_1e, u_12, u_13, u_14⟩ := hL_1
  refine aw_callVR (As := []) (rest := []) (c_Lsize G hSL) kJx4a65c_size_8abf5 w_761 u_12 rfl rfl rfl rfl (Nat.le_of_ble_eq_true rfl) dX9_sequence_9 ⟨Nat.le_of_ble_eq_true rfl, Nat.le_of_ble_eq_true rfl⟩ ⟨Nat.le_of_ble_eq_true rfl, Nat.le_of_ble_eq_true rfl⟩ ?_
  rw [hsn]
  refine aw_ic dX9_sequence_12 ic_4 ?_
  refine aw_icmp_neN (tgt := 22) (by omega) (by omega) dX9_sequence_13 (by decide) (fun c1 => ?_) (fun c1 => ?_)
  · skip
    have hlt : σ.2.1.length < 4 := by omega
    refine aw_aload_n dX9_sequence_22 rfl ?_
    refine aw_get 2 f_1 rfl rfl (by decide) w_732 rfl dX9_sequence_23 ?_
    refine aw_newV (ci := 1) (fs := [.int (nI (0)), .null, .int (nI (0))]) rfl w_701 w_702 w_8 (by decide +kernel) (Nat.le_of_ble_eq_true rfl) (Nat.le_of_ble_eq_true rfl) dX9_sequence_26 (fun h_2 f_2 o_2 => ?_)
    have f_3 := (o_2 m (by omega)).trans f_1
    refine aw_dup dX9_sequence_29 rfl ?_
    refine aw_callIQ (As := []) (rest := [.ref (nx), .ref (m + 2)]) (c_Linit G f_2) kJx4a65c_init_da8c8 w_703 rfl rfl (Nat.le_of_ble_eq_true rfl) dX9_sequence_30 ⟨Nat.le_of_ble_eq_true rfl, Nat.le_of_ble_eq_true rfl⟩ ⟨Nat.le_of_ble_eq_true rfl, Nat.le_of_ble_eq_true rfl⟩ (fun v_1 h_3 n_1 q_1 z_1 => ?_)
    obtain ⟨rfl, rfl, hN, oN⟩ := q_1
    obtain ⟨own2, h2⟩ : ∃ own2 : Nat → Nat, own2 = (fun q => if q = nx then 16 + σ.2.1.length else own q) := ⟨_, rfl⟩
    have h2a : ∀ q, q ≠ nx → own2 q = own q := fun q hq => by rw [h2]; exact if_neg hq
    have h2b : own2 nx = 16 + σ.2.1.length := by rw [h2]; exact if_pos rfl
    have oz : ∀ q, q ≠ nx → h_3 q = h_1 q := fun q g => (oN q g).trans (o_2 q g)
    have ho2 : ∀ b, nx + 1 ≤ b → own2 b = 0 := fun b hb => (h2a b (by omega)).trans (hM.1 b (by omega))
    have hM2 : MAt G own2 h_3 (nx + 1) m σ (nI 0) := hM1.keep h4 h5 ho2 (fun b hb => by have hbn := own_lt hM.1 hb; exact ⟨oz b (by omega), h2a b (by omega)⟩)
    have F2 : Fr own own2 h_1 h_3 nx (nx + 1) KM := ⟨by omega, fun q hq => h2a q (by omega), ho2, fun q hq => (by by_cases z : q = nx; exact Or.inr (Or.inr (by rw [z, h2b]; exact ⟨by omega, by omega⟩)); exact Or.inl ((h2a q z).trans (hM.1 q hq))), fun q hq _ => oz q (by omega)⟩
    have hnew : LsAt G own2 h_3 (16 + σ.2.1.length) nx [] := ⟨h2b, nI 0, G.2.2.2, hN, by omega, Or.inl ⟨rfl, rfl⟩⟩
    obtain ⟨ss2, hSL2, hsn2, hel2, hset2⟩ := hM2.seqsS h4 h5
    have hL_2 := hSL2
    obtain ⟨u_21, u_2m, u_2e, u_22, u_23, u_24⟩ := hL_2
    refine aw_callVQ (As := [.ref (nx)]) (rest := []) (c_Ladd G hSL2 hM2.1 (by decide) (fun i hi => hel2 i hi) ⟨Or.inl ⟨1, _, Or.inl rfl, hN⟩, by omega, by omega⟩ (by omega)) kJx4a65c_add_9ea2d w_793 u_22 rfl rfl rfl rfl (Nat.le_of_ble_eq_true rfl) dX9_sequence_33 ⟨Nat.le_of_ble_eq_true rfl, Nat.le_of_ble_eq_true rfl⟩ ⟨Nat.le_of_ble_eq_true rfl, Nat.le_of_ble_eq_true rfl⟩ (fun v_2 h_4 n_2 q_2 z_2 => ?_)
    obtain ⟨rfl, own3, F3, hL3⟩ := q_2
    have hM3 := hset2 own3 _ _ nx [] hlt F3 hL3 ⟨[], hnew, rfl, fun t ht => absurd ht (Nat.not_lt_zero _)⟩
    have w_2M := hM3
    obtain ⟨w_2o, w_2m, ⟨w_2s, w_2f⟩, -⟩ := w_2M
    have hL_3 := hL3
    obtain ⟨u_31, u_3m, u_3e, u_32, u_33, u_34⟩ := hL_3
    refine aw_pop dX9_sequence_36 rfl ?_
    refine aw_aload_n dX9_sequence_37 rfl ?_
    refine aw_get 2 w_2f rfl rfl (by decide) w_732 rfl dX9_sequence_38 ?_
    refine aw_callVR (As := []) (rest := []) (c_Lsize G hL3) kJx4a65c_size_8abf5 w_761 u_32 rfl rfl rfl rfl (Nat.le_of_ble_eq_true rfl) dX9_sequence_41 ⟨Nat.le_of_ble_eq_true rfl, Nat.le_of_ble_eq_true rfl⟩ ⟨Nat.le_of_ble_eq_true rfl, Nat.le_of_ble_eq_true rfl⟩ ?_
    rw [show (ss2 ++ [nx]).length = σ.2.1.length + 1 by rw [List.length_append, hsn2]; rfl]
    refine aw_ic dX9_sequence_44 ic_1 ?_
    refine aw_isubN (by omega) dX9_sequence_45 ?_
    rw [show σ.2.1.length + 1 - 1 = σ.2.1.length by omega]
    have hs : sSequence σ = (.inl (some (.int (nI σ.2.1.length))), (σ.1, σ.2.1 ++ [[]], σ.2.2)) := by unfold sSequence; rw [if_pos hlt]
    exact aw_ireturn dX9_sequence_46 rfl (mDid ((F1.tr F2).tr (F3.mono (fun j hj => ⟨by omega, by omega⟩))) hM3 hs rfl) (Nat.le_of_ble_eq_true rfl) (Nat.le_of_ble_eq_true rfl)
  · skip
    refine aw_aload_n dX9_sequence_16 rfl ?_
    refine aw_ic dX9_sequence_17 ic_1 ?_
    refine aw_callVQ (As := [.int (nI (1))]) (rest := []) (c_X9_refuse G f_1) kX9_refuse w_757 f_1 rfl rfl rfl rfl (Nat.le_of_ble_eq_true rfl) dX9_sequence_18 ⟨Nat.le_of_ble_eq_true rfl, Nat.le_of_ble_eq_true rfl⟩ ⟨Nat.le_of_ble_eq_true rfl, Nat.le_of_ble_eq_true rfl⟩ (fun v_3 h_5 n_3 q_3 z_3 => ?_)
    obtain ⟨rfl, rfl, qm, qo⟩ := q_3
    have hs : sSequence σ = (.inr xISE, σ) := by unfold sSequence; rw [if_neg (by omega)]
    exact aw_ireturn dX9_sequence_21 rfl (mAsk hσ.1 hσ.2.1 hM (by omega) qm (fun q hq hqm => ((qo q (by omega)).trans (o_1 q (by omega)))) hs (mR rfl)) (Nat.le_of_ble_eq_true rfl) (Nat.le_of_ble_eq_true rfl)
set_option maxHeartbeats 4000000 in
set_option maxRecDepth 20000 in
/-- deck -/
theorem m_X9_deck (G : aG) {h : aH} {nx m c : Nat} {own : Nat → Nat} {σ : aSg} {th : Int32} (hM : MAt G own h nx m σ th) (hσ : sgOk c σ) (hc9 : c ≤ 512) (hG : G.2.2.2 < m) (x : Int32) : aMet G mX9_deck 8 6 103 [.ref (m), .int (x)] h nx (mPo G own h nx m cdB (.int (nI 0)) (sDeck σ x)) := by
  have h4 := hσ.1
  have h5 := hσ.2.1
  have hmn := own_lt hM.1 (b := m) (by rw [hM.2.1]; decide)
  refine aMet_of rfl (Nat.le_of_ble_eq_true rfl) ?_
  show aw G mX9_deck [] (aRoom 8 6 103) (aEnd G (mPo G own h nx m cdB (.int (nI 0)) (sDeck σ x)) 6 103) 0 0 h nx 0 [(0, .ref (m)), (1, .int (x))] []
  have w_1M := hM
  obtain ⟨w_1o, w_1m, ⟨w_1s, w_1f⟩, -⟩ := w_1M
  refine aw_aload_n dX9_deck_0 rfl ?_
  refine aw_ic dX9_deck_1 ic_0 ?_
  refine aw_putV (v := .int (nI (0))) (ty := .int) (fs' := [.int (nI (0)), .ref (m + 1), .ref (m + 2), .int (nI (σ.2.2)), .long (w_1s)]) 0 w_1f rfl rfl (by decide) (by decide +kernel) rfl rfl rfl (Nat.le_of_ble_eq_true rfl) rfl w_730 dX9_deck_2 (fun h_1 f_1 o_1 => ?_)
  refine aw_iload_n dX9_deck_5 rfl ?_
  refine aw_ic dX9_deck_6 ic_2 ?_
  refine aw_bp (v := 16) dX9_deck_7 (by decide) ?_
  have hM1 := hM.th hσ.1 hσ.2.1 (Nat.le_refl _) f_1 (fun q hq hqm => (o_1 q (by omega)))
  have F1 : Fr own own h h_1 nx nx KM := ⟨Nat.le_refl _, fun _ _ => rfl, hM.1, fun b hb => Or.inl (hM.1 b hb), fun q hq hk => (o_1 q (fun z => hk (by rw [z, hM.2.1]; decide)))⟩
  refine aw_callSR (As := [.int (x), .int (nI (2)), .int (nI (16))]) (rest := []) (c_X9_is G x (nI 2) (nI 16)) kX9_is w_754 rfl rfl (Nat.le_of_ble_eq_true rfl) dX9_deck_9 ⟨Nat.le_of_ble_eq_true rfl, Nat.le_of_ble_eq_true rfl⟩ ⟨Nat.le_of_ble_eq_true rfl, Nat.le_of_ble_eq_true rfl⟩ ?_
  have hz : decide ((nI 2).toInt ≤ x.toInt ∧ x.toInt ≤ (nI 16).toInt) = wIn x 2 16 := by unfold wIn; rw [show (nI 2).toInt = 2 by decide, show (nI 16).toInt = 16 by decide]
  rw [hz]
  refine aw_if_neB (tgt := 21) dX9_deck_12 (by decide) (fun hw => ?_) (fun hw => ?_)
  · skip
    obtain ⟨n, hn2, hn16, hxn⟩ := wIn_nat (a := 2) (b := 16) hw (by decide)
    have hxN : x.toInt.toNat = n := by rw [hxn]; exact nI_nat (by omega)
    obtain ⟨ds, hSL, hsn, hel, hset⟩ := hM1.decksS h4 h5
    refine aw_aload_n dX9_deck_21 rfl ?_
    refine aw_get 1 f_1 rfl rfl (by decide) w_731 rfl dX9_deck_22 ?_
    have hL_1 := hSL
    obtain ⟨u_11, u_1m, u_1e, u_12, u_13, u_14⟩ := hL_1
    refine aw_callVR (As := []) (rest := []) (c_Lsize G hSL) kJx4a65c_size_8abf5 w_761 u_12 rfl rfl rfl rfl (Nat.le_of_ble_eq_true rfl) dX9_deck_25 ⟨Nat.le_of_ble_eq_true rfl, Nat.le_of_ble_eq_true rfl⟩ ⟨Nat.le_of_ble_eq_true rfl, Nat.le_of_ble_eq_true rfl⟩ ?_
    rw [hsn]
    refine aw_ic dX9_deck_28 ic_4 ?_
    refine aw_icmp_neN (tgt := 38) (by omega) (by omega) dX9_deck_29 (by decide) (fun c1 => ?_) (fun c1 => ?_)
    · skip
      have hlt : σ.1.length < 4 := by omega
      refine aw_aload_n dX9_deck_38 rfl ?_
      refine aw_get 1 f_1 rfl rfl (by decide) w_731 rfl dX9_deck_39 ?_
      refine aw_newV (ci := 6) (fs := [.null, .null, .null, .null, .int (nI (0))]) rfl w_765 w_766 w_14 (by decide +kernel) (Nat.le_of_ble_eq_true rfl) (Nat.le_of_ble_eq_true rfl) dX9_deck_42 (fun h_2 f_2 o_2 => ?_)
      have f_3 := (o_2 m (by omega)).trans f_1
      refine aw_dup dX9_deck_45 rfl ?_
      refine aw_iload_n dX9_deck_46 rfl ?_
      refine aw_top (show (x) = (nI (n)) from hxn) ?_
      refine aw_callIQ (As := [.int (nI (n))]) (rest := [.ref (nx), .ref (m + 1)]) (c_X7_init G f_2 hn16) kX7_init w_767 rfl rfl (Nat.le_of_ble_eq_true rfl) dX9_deck_47 ⟨Nat.le_of_ble_eq_true rfl, Nat.le_of_ble_eq_true rfl⟩ ⟨Nat.le_of_ble_eq_true rfl, Nat.le_of_ble_eq_true rfl⟩ (fun v_1 h_3 n_1 q_1 z_1 => ?_)
      obtain ⟨rfl, rfl, hC, hl1, hl2, oN⟩ := q_1
      obtain ⟨i, hi⟩ : ∃ i, i = σ.1.length := ⟨_, rfl⟩
      obtain ⟨own2, h2⟩ : ∃ own2 : Nat → Nat, own2 = (fun q => if q = nx then 4 * i + 1 else if q = nx + 1 then 4 * i + 2 else if q = nx + 2 then 4 * i + 3 else if q = nx + 3 ∨ q = nx + 4 then 30 else own q) := ⟨_, rfl⟩
      have h2a : ∀ q, (q < nx ∨ nx + 5 ≤ q) → own2 q = own q := fun q hq => by rw [h2]; show (if q = nx then 4 * i + 1 else if q = nx + 1 then 4 * i + 2 else if q = nx + 2 then 4 * i + 3 else if q = nx + 3 ∨ q = nx + 4 then 30 else own q) = own q; rw [if_neg (by omega), if_neg (by omega), if_neg (by omega), if_neg (by omega)]
      have b0 : own2 nx = 4 * i + 1 := by rw [h2]; exact if_pos rfl
      have b1 : own2 (nx + 1) = 4 * i + 2 := by rw [h2]; show (if nx + 1 = nx then 4 * i + 1 else if nx + 1 = nx + 1 then 4 * i + 2 else _) = _; rw [if_neg (by omega), if_pos rfl]
      have b2 : own2 (nx + 2) = 4 * i + 3 := by rw [h2]; show (if nx + 2 = nx then 4 * i + 1 else if nx + 2 = nx + 1 then 4 * i + 2 else if nx + 2 = nx + 2 then 4 * i + 3 else _) = _; rw [if_neg (by omega), if_neg (by omega), if_pos rfl]
      have b3 : own2 (nx + 3) = 30 := by rw [h2]; show (if nx + 3 = nx then 4 * i + 1 else if nx + 3 = nx + 1 then 4 * i + 2 else if nx + 3 = nx + 2 then 4 * i + 3 else if nx + 3 = nx + 3 ∨ nx + 3 = nx + 4 then 30 else own (nx + 3)) = 30; rw [if_neg (by omega), if_neg (by omega), if_neg (by omega), if_pos (by omega)]
      have b4 : own2 (nx + 4) = 30 := by rw [h2]; show (if nx + 4 = nx then 4 * i + 1 else if nx + 4 = nx + 1 then 4 * i + 2 else if nx + 4 = nx + 2 then 4 * i + 3 else if nx + 4 = nx + 3 ∨ nx + 4 = nx + 4 then 30 else own (nx + 4)) = 30; rw [if_neg (by omega), if_neg (by omega), if_neg (by omega), if_pos (by omega)]
      have oz : ∀ q, q < nx → h_3 q = h_1 q := fun q g => (oN q (by omega)).trans (o_2 q (by omega))
      have ho2 : ∀ b, nx + 5 ≤ b → own2 b = 0 := fun b hb => (h2a b (by omega)).trans (hM.1 b (by omega))
      have hM2 : MAt G own2 h_3 (nx + 5) m σ (nI 0) := hM1.keep h4 h5 ho2 (fun b hb => by have hbn := own_lt hM.1 hb; exact ⟨oz b hbn, h2a b (by omega)⟩)
      have F2 : Fr own own2 h_1 h_3 nx (nx + 5) KM := by
        refine ⟨by omega, fun q hq => h2a q (by omega), ho2, fun q hq => ?_, fun q hq _ => oz q hq⟩
        rcases (show q = nx ∨ q = nx + 1 ∨ q = nx + 2 ∨ q = nx + 3 ∨ q = nx + 4 ∨ nx + 5 ≤ q by omega) with z | z | z | z | z | z
        · rw [z, b0]; exact Or.inr (Or.inr ⟨by omega, by omega⟩)
        · rw [z, b1]; exact Or.inr (Or.inr ⟨by omega, by omega⟩)
        · rw [z, b2]; exact Or.inr (Or.inr ⟨by omega, by omega⟩)
        · exact Or.inr (Or.inl (by rw [z]; exact b3))
        · exact Or.inr (Or.inl (by rw [z]; exact b4))
        · exact Or.inl (ho2 q z)
      have hnew : DkAt G own2 h_3 σ.1.length nx (idL n, [], 0) := by rw [← hi]; exact ⟨b0, Nat.le_refl _, Nat.zero_le _, nx + 3, nx + 4, [], [], hC, b3, b4, ⟨b1, nI 0, G.2.2.2, hl1, by omega, Or.inl ⟨rfl, rfl⟩⟩, ⟨b2, nI 0, G.2.2.2, hl2, by omega, Or.inl ⟨rfl, rfl⟩⟩, rfl, rfl, fun j hj => absurd hj (Nat.not_lt_zero _)⟩
      obtain ⟨ds2, hSL2, hsn2, hel2, hset2⟩ := hM2.decksS h4 h5
      have hL_2 := hSL2
      obtain ⟨u_21, u_2m, u_2e, u_22, u_23, u_24⟩ := hL_2
      refine aw_callVQ (As := [.ref (nx)]) (rest := []) (c_Ladd G hSL2 hM2.1 (by decide) (fun i hi => hel2 i hi) ⟨Or.inl ⟨6, _, Or.inr rfl, hC.o⟩, by omega, by omega⟩ (by omega)) kJx4a65c_add_9ea2d w_793 u_22 rfl rfl rfl rfl (Nat.le_of_ble_eq_true rfl) dX9_deck_50 ⟨Nat.le_of_ble_eq_true rfl, Nat.le_of_ble_eq_true rfl⟩ ⟨Nat.le_of_ble_eq_true rfl, Nat.le_of_ble_eq_true rfl⟩ (fun v_2 h_4 n_2 q_2 z_2 => ?_)
      obtain ⟨rfl, own3, F3, hL3⟩ := q_2
      have hM3 := hset2 own3 _ _ nx (idL n, [], 0) hlt F3 hL3 hnew
      have w_2M := hM3
      obtain ⟨w_2o, w_2m, ⟨w_2s, w_2f⟩, -⟩ := w_2M
      have hL_3 := hL3
      obtain ⟨u_31, u_3m, u_3e, u_32, u_33, u_34⟩ := hL_3
      refine aw_pop dX9_deck_53 rfl ?_
      refine aw_aload_n dX9_deck_54 rfl ?_
      refine aw_get 1 w_2f rfl rfl (by decide) w_731 rfl dX9_deck_55 ?_
      refine aw_callVR (As := []) (rest := []) (c_Lsize G hL3) kJx4a65c_size_8abf5 w_761 u_32 rfl rfl rfl rfl (Nat.le_of_ble_eq_true rfl) dX9_deck_58 ⟨Nat.le_of_ble_eq_true rfl, Nat.le_of_ble_eq_true rfl⟩ ⟨Nat.le_of_ble_eq_true rfl, Nat.le_of_ble_eq_true rfl⟩ ?_
      rw [show (ds2 ++ [nx]).length = σ.1.length + 1 by rw [List.length_append, hsn2]; rfl]
      refine aw_ic dX9_deck_61 ic_1 ?_
      refine aw_isubN (by omega) dX9_deck_62 ?_
      rw [show σ.1.length + 1 - 1 = σ.1.length by omega]
      have hs : sDeck σ x = (.inl (some (.int (nI σ.1.length))), (σ.1 ++ [(idL n, [], 0)], σ.2)) := by unfold sDeck; rw [if_pos hw, if_pos hlt, hxN]
      exact aw_ireturn dX9_deck_63 rfl (mDid ((F1.tr F2).tr (F3.mono (fun j hj => ⟨by omega, by omega⟩))) hM3 hs rfl) (Nat.le_of_ble_eq_true rfl) (Nat.le_of_ble_eq_true rfl)
    · skip
      refine aw_aload_n dX9_deck_32 rfl ?_
      refine aw_ic dX9_deck_33 ic_2 ?_
      refine aw_callVQ (As := [.int (nI (2))]) (rest := []) (c_X9_refuse G f_1) kX9_refuse w_757 f_1 rfl rfl rfl rfl (Nat.le_of_ble_eq_true rfl) dX9_deck_34 ⟨Nat.le_of_ble_eq_true rfl, Nat.le_of_ble_eq_true rfl⟩ ⟨Nat.le_of_ble_eq_true rfl, Nat.le_of_ble_eq_true rfl⟩ (fun v_3 h_5 n_3 q_3 z_3 => ?_)
      obtain ⟨rfl, rfl, qm, qo⟩ := q_3
      have hs : sDeck σ x = (.inr xISE, σ) := by unfold sDeck; rw [if_pos hw, if_neg (by omega)]
      exact aw_ireturn dX9_deck_37 rfl (mAsk hσ.1 hσ.2.1 hM (by omega) qm (fun q hq hqm => ((qo q (by omega)).trans (o_1 q (by omega)))) hs (mR cdB_ise)) (Nat.le_of_ble_eq_true rfl) (Nat.le_of_ble_eq_true rfl)
  · skip
    refine aw_aload_n dX9_deck_15 rfl ?_
    refine aw_ic dX9_deck_16 ic_1 ?_
    refine aw_callVQ (As := [.int (nI (1))]) (rest := []) (c_X9_refuse G f_1) kX9_refuse w_757 f_1 rfl rfl rfl rfl (Nat.le_of_ble_eq_true rfl) dX9_deck_17 ⟨Nat.le_of_ble_eq_true rfl, Nat.le_of_ble_eq_true rfl⟩ ⟨Nat.le_of_ble_eq_true rfl, Nat.le_of_ble_eq_true rfl⟩ (fun v_4 h_6 n_4 q_4 z_4 => ?_)
    obtain ⟨rfl, rfl, qm, qo⟩ := q_4
    have hs : sDeck σ x = (.inr xIAE, σ) := by unfold sDeck; rw [if_neg (by rw [hw]; decide)]
    exact aw_ireturn dX9_deck_20 rfl (mAsk hσ.1 hσ.2.1 hM (by omega) qm (fun q hq hqm => ((qo q (by omega)).trans (o_1 q (by omega)))) hs (mR cdB_iae)) (Nat.le_of_ble_eq_true rfl) (Nat.le_of_ble_eq_true rfl)
set_option maxHeartbeats 4000000 in
set_option maxRecDepth 20000 in
/-- step -/
theorem m_X9_step (G : aG) {h : aH} {nx m c : Nat} {own : Nat → Nat} {σ : aSg} {th : Int32} (hM : MAt G own h nx m σ th) (hσ : sgOk c σ) (hc9 : c ≤ 512) (x k n : Int32) : aMet G mX9_step 8 2 62 [.ref (m), .int (x), .int (k), .int (n)] h nx (mPo G own h nx m cdA (.int (nI 0)) (sStep σ x k n)) := by
  have h4 := hσ.1
  have h5 := hσ.2.1
  have hmn := own_lt hM.1 (b := m) (by rw [hM.2.1]; decide)
  refine aMet_of rfl (Nat.le_of_ble_eq_true rfl) ?_
  show aw G mX9_step [] (aRoom 8 2 62) (aEnd G (mPo G own h nx m cdA (.int (nI 0)) (sStep σ x k n)) 2 62) 0 0 h nx 0 [(0, .ref (m)), (1, .int (x)), (2, .int (k)), (3, .int (n))] []
  have w_1M := hM
  obtain ⟨w_1o, w_1m, ⟨w_1s, w_1f⟩, -⟩ := w_1M
  refine aw_aload_n dX9_step_0 rfl ?_
  refine aw_ic dX9_step_1 ic_0 ?_
  refine aw_putV (v := .int (nI (0))) (ty := .int) (fs' := [.int (nI (0)), .ref (m + 1), .ref (m + 2), .int (nI (σ.2.2)), .long (w_1s)]) 0 w_1f rfl rfl (by decide) (by decide +kernel) rfl rfl rfl (Nat.le_of_ble_eq_true rfl) rfl w_730 dX9_step_2 (fun h_1 f_1 o_1 => ?_)
  refine aw_aload_n dX9_step_5 rfl ?_
  refine aw_iload_n dX9_step_6 rfl ?_
  have hM1 := hM.th hσ.1 hσ.2.1 (Nat.le_refl _) f_1 (fun q hq hqm => (o_1 q (by omega)))
  have F1 : Fr own own h h_1 nx nx KM := ⟨Nat.le_refl _, fun _ _ => rfl, hM.1, fun b hb => Or.inl (hM.1 b hb), fun q hq hk => (o_1 q (fun z => hk (by rw [z, hM.2.1]; decide)))⟩
  refine aw_callVR (As := [.int (x)]) (rest := []) (c_X9_isSequence G hM1 hσ hc9 x) kX9_isSequence w_956 f_1 rfl rfl rfl rfl (Nat.le_of_ble_eq_true rfl) dX9_step_7 ⟨Nat.le_of_ble_eq_true rfl, Nat.le_of_ble_eq_true rfl⟩ ⟨Nat.le_of_ble_eq_true rfl, Nat.le_of_ble_eq_true rfl⟩ ?_
  refine aw_if_neB (tgt := 19) dX9_step_10 (by decide) (fun hx => ?_) (fun hx => ?_)
  · skip
    refine aw_iload_n dX9_step_19 rfl ?_
    refine aw_ic dX9_step_20 ic_0 ?_
    refine aw_bp (v := 9) dX9_step_21 (by decide) ?_
    refine aw_callSR (As := [.int (k), .int (nI (0)), .int (nI (9))]) (rest := []) (c_X9_is G k (nI 0) (nI 9)) kX9_is w_754 rfl rfl (Nat.le_of_ble_eq_true rfl) dX9_step_23 ⟨Nat.le_of_ble_eq_true rfl, Nat.le_of_ble_eq_true rfl⟩ ⟨Nat.le_of_ble_eq_true rfl, Nat.le_of_ble_eq_true rfl⟩ ?_
    have hz : decide ((nI 0).toInt ≤ k.toInt ∧ k.toInt ≤ (nI 9).toInt) = wIn k 0 9 := by unfold wIn; rw [show (nI 0).toInt = 0 by decide, show (nI 9).toInt = 9 by decide]
    rw [hz]
    refine aw_if_eqB (tgt := 33) dX9_step_26 (by decide) (fun hw => ?_) (fun hw => ?_)
    · skip
      refine aw_aload_n dX9_step_33 rfl ?_
      refine aw_ic dX9_step_34 ic_2 ?_
      refine aw_callVQ (As := [.int (nI (2))]) (rest := []) (c_X9_refuse G f_1) kX9_refuse w_757 f_1 rfl rfl rfl rfl (Nat.le_of_ble_eq_true rfl) dX9_step_35 ⟨Nat.le_of_ble_eq_true rfl, Nat.le_of_ble_eq_true rfl⟩ ⟨Nat.le_of_ble_eq_true rfl, Nat.le_of_ble_eq_true rfl⟩ (fun v_1 h_2 n_1 q_1 z_1 => ?_)
      obtain ⟨rfl, rfl, qm, qo⟩ := q_1
      have hs : sStep σ x k n = (.inr xIAE, σ) := by unfold sStep; rw [if_pos hx, hw]; rfl
      exact aw_ireturn dX9_step_38 rfl (mAsk hσ.1 hσ.2.1 hM (by omega) qm (fun q hq hqm => ((qo q (by omega)).trans (o_1 q (by omega)))) hs (mR cdA_iae)) (Nat.le_of_ble_eq_true rfl) (Nat.le_of_ble_eq_true rfl)
    · skip
      refine aw_iload_n dX9_step_29 rfl ?_
      refine aw_if_ge (tgt := 39) dX9_step_30 (by decide) (fun hn => ?_) (fun hn => ?_)
      · skip
        have hn0 : 0 ≤ n.toInt := by have := Int32.le_iff_toInt_le.mp hn; rw [show (0 : Int32).toInt = 0 by decide] at this; exact this
        obtain ⟨u, -, hu, hku⟩ := wIn_nat (a := 0) (b := 9) hw (by decide)
        obtain ⟨v, hv, hnv⟩ := nI_of (x := n) (Int32.not_lt.mpr hn)
        have hcond : (wIn k 0 9 && decide (0 ≤ n.toInt)) = true := by rw [hw, decide_eq_true hn0]; rfl
        obtain ⟨jq, sq, ss, ts, st, hj4, hjl, hxj, hsI, hSL, hjss, hss4, hss, hLs, hts, hST, hst, hset⟩ := hM1.seqS hσ hx
        have hst1 := hst.1
        refine aw_aload_n dX9_step_39 rfl ?_
        refine aw_get 2 f_1 rfl rfl (by decide) w_732 rfl dX9_step_40 ?_
        refine aw_iload_n dX9_step_43 rfl ?_
        have hL_1 := hSL
        obtain ⟨u_11, u_1m, u_1e, u_12, u_13, u_14⟩ := hL_1
        refine aw_top (show (x) = (nI (jq)) from hxj) ?_
        refine aw_callVR (As := [.int (nI (jq))]) (rest := []) (c_Lget G hSL hjss (by omega)) kJx4a65c_get_915e3 w_854 u_12 rfl rfl rfl rfl (Nat.le_of_ble_eq_true rfl) dX9_step_44 ⟨Nat.le_of_ble_eq_true rfl, Nat.le_of_ble_eq_true rfl⟩ ⟨Nat.le_of_ble_eq_true rfl, Nat.le_of_ble_eq_true rfl⟩ ?_
        rw [hss]
        have hL_2 := hLs
        obtain ⟨u_21, u_2m, u_2e, u_22, u_23, u_24⟩ := hL_2
        refine aw_castO u_22 rfl rfl w_701 dX9_step_47 ?_
        refine aw_callVR (As := []) (rest := []) (c_Lsize G hLs) kJx4a65c_size_8abf5 w_761 u_22 rfl rfl rfl rfl (Nat.le_of_ble_eq_true rfl) dX9_step_50 ⟨Nat.le_of_ble_eq_true rfl, Nat.le_of_ble_eq_true rfl⟩ ⟨Nat.le_of_ble_eq_true rfl, Nat.le_of_ble_eq_true rfl⟩ ?_
        rw [hts]
        refine aw_bp (v := 8) dX9_step_53 (by decide) ?_
        refine aw_icmp_neN (tgt := 64) (by omega) (by omega) dX9_step_55 (by decide) (fun c1 => ?_) (fun c1 => ?_)
        · skip
          have hlt : st.length < 8 := by omega
          refine aw_ic dX9_step_64 ic_2 ?_
          refine aw_newarrIV (by decide) w_56 (Nat.le_of_ble_eq_true rfl) (Nat.le_of_ble_eq_true rfl) dX9_step_65 (fun h_3 f_2 o_2 => ?_)
          have f_3 := (o_2 m (by omega)).trans f_1
          refine aw_dup dX9_step_67 rfl ?_
          refine aw_ic dX9_step_68 ic_0 ?_
          refine aw_iload_n dX9_step_69 rfl ?_
          refine aw_top (show (k) = (nI (u)) from hku) ?_
          refine aw_iastoreV f_2 (by omega) (by omega) dX9_step_70 (fun h_4 f_4 o_3 => ?_)
          have f_5 := (o_3 m (by omega)).trans f_3
          refine aw_dup dX9_step_71 rfl ?_
          refine aw_ic dX9_step_72 ic_1 ?_
          refine aw_iload_n dX9_step_73 rfl ?_
          refine aw_top (show (n) = (nI (v)) from hnv) ?_
          refine aw_iastoreV f_4 (by omega) (by omega) dX9_step_74 (fun h_5 f_6 o_4 => ?_)
          have f_7 := (o_4 m (by omega)).trans f_5
          refine aw_astore (L' := [(4, .ref (nx)), (0, .ref (m)), (1, .int (x)), (2, .int (k)), (3, .int (n))]) dX9_step_75 (by decide) rfl ?_
          have hN : StepAt h_5 nx (u, v) := ⟨_, f_6, by simp [upd], by simp [upd]⟩
          have oz : ∀ q, q ≠ nx → h_5 q = h_1 q := fun q g => (o_4 q g).trans ((o_3 q g).trans (o_2 q g))
          obtain ⟨own2, h2⟩ : ∃ own2 : Nat → Nat, own2 = (fun q => if q = nx then 30 else own q) := ⟨_, rfl⟩
          have h2a : ∀ q, q ≠ nx → own2 q = own q := fun q hq => by rw [h2]; exact if_neg hq
          have h2b : own2 nx = 30 := by rw [h2]; exact if_pos rfl
          have ho2 : ∀ b, nx + 1 ≤ b → own2 b = 0 := fun b hb => (h2a b (by omega)).trans (hM.1 b (by omega))
          have hM2 : MAt G own2 h_5 (nx + 1) m σ (nI 0) := hM1.keep h4 h5 ho2 (fun b hb => by have hbn := own_lt hM.1 hb; exact ⟨oz b (by omega), h2a b (by omega)⟩)
          have F2 : Fr own own2 h_1 h_5 nx (nx + 1) KM := ⟨by omega, fun q hq => h2a q (by omega), ho2, fun q hq => (by by_cases z : q = nx; exact Or.inr (Or.inl (by rw [z]; exact h2b)); exact Or.inl ((h2a q z).trans (hM.1 q hq))), fun q hq _ => oz q (by omega)⟩
          clear hset hST hLs hts hss hss4 hjss hSL hxj hjl hj4
          obtain ⟨jr, sr, sr2, tr, st2, hj4, hjl, hxj, hsI2, hSL, hjss, hss4, hss, hLs, hts, hST, hst2, hset⟩ := hM2.seqS hσ hx
          obtain rfl : st = st2 := hsI.symm.trans hsI2
          refine aw_aload_n dX9_step_77 rfl ?_
          refine aw_get 2 f_7 rfl rfl (by decide) w_732 rfl dX9_step_78 ?_
          refine aw_iload_n dX9_step_81 rfl ?_
          have hL_3 := hSL
          obtain ⟨u_31, u_3m, u_3e, u_32, u_33, u_34⟩ := hL_3
          refine aw_top (show (x) = (nI (jr)) from hxj) ?_
          refine aw_callVR (As := [.int (nI (jr))]) (rest := []) (c_Lget G hSL hjss (by omega)) kJx4a65c_get_915e3 w_854 u_32 rfl rfl rfl rfl (Nat.le_of_ble_eq_true rfl) dX9_step_82 ⟨Nat.le_of_ble_eq_true rfl, Nat.le_of_ble_eq_true rfl⟩ ⟨Nat.le_of_ble_eq_true rfl, Nat.le_of_ble_eq_true rfl⟩ ?_
          rw [hss]
          have hL_4 := hLs
          obtain ⟨u_41, u_4m, u_4e, u_42, u_43, u_44⟩ := hL_4
          refine aw_castO u_42 rfl rfl w_701 dX9_step_85 ?_
          refine aw_aload dX9_step_88 rfl ?_
          refine aw_callVQ (As := [.ref (nx)]) (rest := []) (c_Ladd G hLs hM2.1 (by omega) (fun i hi => by have := hST i (by omega); exact ⟨this.2.s, by omega, own_lt hM2.1 (by omega)⟩) ⟨hN.s, by omega, by omega⟩ (by omega)) kJx4a65c_add_9ea2d w_793 u_42 rfl rfl rfl rfl (Nat.le_of_ble_eq_true rfl) dX9_step_90 ⟨Nat.le_of_ble_eq_true rfl, Nat.le_of_ble_eq_true rfl⟩ ⟨Nat.le_of_ble_eq_true rfl, Nat.le_of_ble_eq_true rfl⟩ (fun v_2 h_6 n_2 q_2 z_2 => ?_)
          obtain ⟨rfl, own3, F3, hL3⟩ := q_2
          have at3 : ∀ q, own2 q ≠ 0 → own2 q ≠ 16 + jr → h_6 q = _ ∧ own3 q = own2 q := fun q g1 g2 => F3.at hM2.1 g1 g2
          have hSl : SlAt G own3 h_6 jr sr (st ++ [(u, v)]) := by
            refine ⟨_, hL3, by simp [hts], fun t ht => ?_⟩
            simp only [List.length_append, List.length_cons, List.length_nil] at ht
            by_cases z : t < st.length
            · have e9 : (st ++ [(u, v)]).getD t (0, 0) = st.getD t (0, 0) := by simp [List.getD, List.getElem?_append_left z]
              have q1 := hST t z
              rw [gD_l (by omega), e9]; exact ⟨(at3 _ (by omega) (by omega)).2.trans q1.1, q1.2.keep (at3 _ (by omega) (by omega)).1⟩
            · have z2 : t = st.length := by omega
              have e9 : (st ++ [(u, v)]).getD st.length (0, 0) = (u, v) := by simp [List.getD]
              rw [z2, e9, ← hts, gD_r]; exact ⟨(at3 _ (by omega) (by omega)).2.trans h2b, hN.keep (at3 _ (by omega) (by omega)).1⟩
          have hM3 := hset own3 _ _ _ F3 hSl
          have hsr : MAt G own3 h_6 n_2 m (σ.1, σ.2.1.set x.toInt.toNat (st ++ [(u, v)]), σ.2.2) (nI 0) := hM3
          have w_2M := hM3
          obtain ⟨w_2o, w_2m, ⟨w_2s, w_2f⟩, -⟩ := w_2M
          have hSL3 := hSL.keep (own1 := own3) (h1 := h_6) (fun q hq => at3 q (by omega) (by omega))
          refine aw_pop dX9_step_93 rfl ?_
          refine aw_aload_n dX9_step_94 rfl ?_
          refine aw_get 2 w_2f rfl rfl (by decide) w_732 rfl dX9_step_95 ?_
          refine aw_iload_n dX9_step_98 rfl ?_
          have hL_5 := hSL3
          obtain ⟨u_51, u_5m, u_5e, u_52, u_53, u_54⟩ := hL_5
          refine aw_top (show (x) = (nI (jr)) from hxj) ?_
          refine aw_callVR (As := [.int (nI (jr))]) (rest := []) (c_Lget G hSL3 hjss (by omega)) kJx4a65c_get_915e3 w_854 u_52 rfl rfl rfl rfl (Nat.le_of_ble_eq_true rfl) dX9_step_99 ⟨Nat.le_of_ble_eq_true rfl, Nat.le_of_ble_eq_true rfl⟩ ⟨Nat.le_of_ble_eq_true rfl, Nat.le_of_ble_eq_true rfl⟩ ?_
          rw [hss]
          have hL_6 := hL3
          obtain ⟨u_61, u_6m, u_6e, u_62, u_63, u_64⟩ := hL_6
          refine aw_castO u_62 rfl rfl w_701 dX9_step_102 ?_
          refine aw_callVR (As := []) (rest := []) (c_Lsize G hL3) kJx4a65c_size_8abf5 w_761 u_62 rfl rfl rfl rfl (Nat.le_of_ble_eq_true rfl) dX9_step_105 ⟨Nat.le_of_ble_eq_true rfl, Nat.le_of_ble_eq_true rfl⟩ ⟨Nat.le_of_ble_eq_true rfl, Nat.le_of_ble_eq_true rfl⟩ ?_
          rw [show (tr ++ [nx]).length = st.length + 1 by rw [List.length_append, hts]; rfl]
          have huN : k.toInt.toNat = u := by rw [hku]; exact nI_nat (by omega)
          have hvN : n.toInt.toNat = v := by rw [hnv]; exact nI_nat hv
          have hs : sStep σ x k n = (.inl (some (.int (nI (st.length + 1)))), (σ.1, σ.2.1.set x.toInt.toNat (st ++ [(u, v)]), σ.2.2)) := by unfold sStep; rw [if_pos hx, if_pos hcond, hsI, if_pos hlt, huN, hvN]
          exact aw_ireturn dX9_step_108 rfl (mDid ((F1.tr F2).tr (F3.mono (fun j hj => ⟨by omega, by omega⟩))) hsr hs rfl) (Nat.le_of_ble_eq_true rfl) (Nat.le_of_ble_eq_true rfl)
        · skip
          refine aw_aload_n dX9_step_58 rfl ?_
          refine aw_ic dX9_step_59 ic_3 ?_
          refine aw_callVQ (As := [.int (nI (3))]) (rest := []) (c_X9_refuse G f_1) kX9_refuse w_757 f_1 rfl rfl rfl rfl (Nat.le_of_ble_eq_true rfl) dX9_step_60 ⟨Nat.le_of_ble_eq_true rfl, Nat.le_of_ble_eq_true rfl⟩ ⟨Nat.le_of_ble_eq_true rfl, Nat.le_of_ble_eq_true rfl⟩ (fun v_3 h_7 n_3 q_3 z_3 => ?_)
          obtain ⟨rfl, rfl, qm, qo⟩ := q_3
          have hs : sStep σ x k n = (.inr xISE, σ) := by unfold sStep; rw [if_pos hx, if_pos hcond, hsI, if_neg (by omega)]
          exact aw_ireturn dX9_step_63 rfl (mAsk hσ.1 hσ.2.1 hM (by omega) qm (fun q hq hqm => ((qo q (by omega)).trans (o_1 q (by omega)))) hs (mR cdA_ise)) (Nat.le_of_ble_eq_true rfl) (Nat.le_of_ble_eq_true rfl)
      · skip
        refine aw_aload_n dX9_step_33 rfl ?_
        refine aw_ic dX9_step_34 ic_2 ?_
        refine aw_callVQ (As := [.int (nI (2))]) (rest := []) (c_X9_refuse G f_1) kX9_refuse w_757 f_1 rfl rfl rfl rfl (Nat.le_of_ble_eq_true rfl) dX9_step_35 ⟨Nat.le_of_ble_eq_true rfl, Nat.le_of_ble_eq_true rfl⟩ ⟨Nat.le_of_ble_eq_true rfl, Nat.le_of_ble_eq_true rfl⟩ (fun v_4 h_8 n_4 q_4 z_4 => ?_)
        obtain ⟨rfl, rfl, qm, qo⟩ := q_4
        have hs : sStep σ x k n = (.inr xIAE, σ) := by unfold sStep; rw [if_pos hx, if_neg (by rw [hw, decide_eq_false (by intro z; exact hn (by rw [Int32.le_iff_toInt_le, show (0 : Int32).toInt = 0 by decide]; exact z))]; decide)]
        exact aw_ireturn dX9_step_38 rfl (mAsk hσ.1 hσ.2.1 hM (by omega) qm (fun q hq hqm => ((qo q (by omega)).trans (o_1 q (by omega)))) hs (mR cdA_iae)) (Nat.le_of_ble_eq_true rfl) (Nat.le_of_ble_eq_true rfl)
  · skip
    refine aw_aload_n dX9_step_13 rfl ?_
    refine aw_ic dX9_step_14 ic_1 ?_
    refine aw_callVQ (As := [.int (nI (1))]) (rest := []) (c_X9_refuse G f_1) kX9_refuse w_757 f_1 rfl rfl rfl rfl (Nat.le_of_ble_eq_true rfl) dX9_step_15 ⟨Nat.le_of_ble_eq_true rfl, Nat.le_of_ble_eq_true rfl⟩ ⟨Nat.le_of_ble_eq_true rfl, Nat.le_of_ble_eq_true rfl⟩ (fun v_5 h_9 n_5 q_5 z_5 => ?_)
    obtain ⟨rfl, rfl, qm, qo⟩ := q_5
    have hs : sStep σ x k n = (.inr xIOB, σ) := by unfold sStep; rw [hx]; rfl
    exact aw_ireturn dX9_step_18 rfl (mAsk hσ.1 hσ.2.1 hM (by omega) qm (fun q hq hqm => ((qo q (by omega)).trans (o_1 q (by omega)))) hs (mR cdA_iob)) (Nat.le_of_ble_eq_true rfl) (Nat.le_of_ble_eq_true rfl)
