set_option maxHeartbeats 4000000 in
set_option maxRecDepth 20000 in
/-- deck -/
theorem p_X6_deck (G : aG) {h : aH} {nx q c : Nat} {σ : aSg} (hH : HallAt h q σ) (hσ : sgOk c σ) (hc9 : c ≤ 512) (x : Int32) : aMet G mX6_deck 12 1 6 [.ref (q), .int (x)] h nx (hPo h q nx (sDeck σ x)) := by
  have h4 := hσ.1
  have h5 := hσ.2.1
  refine aMet_of rfl (Nat.le_of_ble_eq_true rfl) ?_
  show aw G mX6_deck [] (aRoom 12 1 6) (aEnd G (hPo h q nx (sDeck σ x)) 1 6) 0 0 h nx 0 [(0, .ref (q)), (1, .int (x))] []
  have hHc := hH
  obtain ⟨e1, e2, e3, ⟨z1, e4⟩, ⟨z2, e5⟩, ⟨z3, e6⟩, e7, e8⟩ := hHc
  refine aw_iload_n dX6_deck_0 rfl ?_
  refine aw_callSR (As := [.int (x)]) (rest := []) (c_X6_isDeckSize G x) kX6_isDeckSize w_482 rfl rfl (Nat.le_of_ble_eq_true rfl) dX6_deck_1 ⟨Nat.le_of_ble_eq_true rfl, Nat.le_of_ble_eq_true rfl⟩ ⟨Nat.le_of_ble_eq_true rfl, Nat.le_of_ble_eq_true rfl⟩ ?_
  refine aw_if_neB (tgt := 17) dX6_deck_4 (by decide) (fun c1 => ?_) (fun c1 => ?_)
  · skip
    have c1w : wIn x 2 16 = true := c1
    refine aw_aload_n dX6_deck_17 rfl ?_
    refine aw_get 2 e1 rfl rfl (by decide) w_96 rfl dX6_deck_18 ?_
    refine aw_ic dX6_deck_21 ic_4 ?_
    refine aw_icmp_ltN (tgt := 35) (by omega) (by omega) dX6_deck_22 (by decide) (fun c2 => ?_) (fun c2 => ?_)
    · skip
      have hs : sDeck σ x = (.inl (some (.int (nI (σ.1.length + 1 - 1)))), (σ.1 ++ [(idL x.toInt.toNat, [], 0)], σ.2)) := by unfold sDeck; rw [if_pos c1w, if_pos c2]; rfl
      obtain ⟨n, hn1, hn2, rfl⟩ := wIn_nat (a := 2) (b := 16) c1w (by omega)
      rw [nI_nat (by omega)] at hs
      have hD := e7 σ.1.length (by omega)
      have hg : σ.1.getD σ.1.length dk0 = dk0 := by simp [List.getD]
      rw [hg] at hD
      have hD : DeckAt h (q + 12 + 45 * σ.1.length) [] [] 0 := hD
      refine aw_aload_n dX6_deck_35 rfl ?_
      refine aw_get 0 e1 rfl rfl (by decide) w_94 rfl dX6_deck_36 ?_
      refine aw_aload_n dX6_deck_39 rfl ?_
      refine aw_get 2 e1 rfl rfl (by decide) w_96 rfl dX6_deck_40 ?_
      refine aw_aaloadD e2 (by omega) (by omega) dX6_deck_43 ?_
      refine aw_to ?_ rfl (show ([va_rf ((fDk q) σ.1.length)] : List Value) = ([.ref (q + 12 + 45 * σ.1.length)] : List Value) from by rw [fDk_at (by omega)]) rfl
      refine aw_iload_n dX6_deck_44 rfl ?_
      refine aw_callVQ (As := [.int (nI (n))]) (rest := []) (c_X1_begin G hD hn2) kX1_begin w_530 hD.1 rfl rfl rfl rfl (Nat.le_of_ble_eq_true rfl) dX6_deck_45 ⟨Nat.le_of_ble_eq_true rfl, Nat.le_of_ble_eq_true rfl⟩ ⟨Nat.le_of_ble_eq_true rfl, Nat.le_of_ble_eq_true rfl⟩ (fun v_1 h_1 n_1 q_1 z_1 => ?_)
      obtain ⟨rfl, rfl, R_1, o_1⟩ := q_1
      have f_1 := (o_1 q (by omega)).trans e1
      have f_2 := (o_1 (q + 1) (by omega)).trans e2
      have f_3 := (o_1 (q + 2) (by omega)).trans e3
      refine aw_aload_n dX6_deck_48 rfl ?_
      refine aw_dup dX6_deck_49 rfl ?_
      refine aw_get 2 f_1 rfl rfl (by decide) w_96 rfl dX6_deck_50 ?_
      refine aw_ic dX6_deck_53 ic_1 ?_
      refine aw_iaddN dX6_deck_54 ?_
      refine aw_putV (v := .int (nI (σ.1.length + 1))) (ty := .int) (fs' := [.ref (q + 1), .ref (q + 2), .int (nI (σ.1.length + 1)), .int (nI (σ.2.1.length)), .int (nI (σ.2.2)), .ref (q + 3), .ref (q + 6), .ref (q + 9)]) 2 f_1 rfl rfl (by decide) (by decide +kernel) rfl rfl rfl (Nat.le_of_ble_eq_true rfl) rfl w_96 dX6_deck_55 (fun h_2 f_4 o_2 => ?_)
      have f_5 := (o_2 (q + 1) (by omega)).trans f_2
      have f_6 := (o_2 (q + 2) (by omega)).trans f_3
      refine aw_aload_n dX6_deck_58 rfl ?_
      refine aw_get 2 f_4 rfl rfl (by decide) w_96 rfl dX6_deck_59 ?_
      refine aw_ic dX6_deck_62 ic_1 ?_
      refine aw_isubN (by omega) dX6_deck_63 ?_
      exact aw_ireturn dX6_deck_64 rfl (hPo_of hs (Nat.le_refl _) (fun a ha => (o_2 a (by omega)).trans (o_1 a (by omega))) (hH.addDeck c2 f_4 (fun a g1 g2 => (o_2 a g1).trans (o_1 a g2)) (R_1.keep (fun a g1 g2 => o_2 a (by omega))))) (Nat.le_of_ble_eq_true rfl) (Nat.le_of_ble_eq_true rfl)
    · skip
      have hs : sDeck σ x = (.inr xISE, σ) := by unfold sDeck; rw [if_pos c1w, if_neg (by omega)]
      exact aw_throw (E := xISE) (text := "there are 4 decks") (names := xNs) (by decide +kernel) xNs_fit w_514 w_13 (by decide +kernel) at_ISE dX6_deck_25 dX6_deck_28 dX6_deck_29 dX6_deck_31 dX6_deck_34 (fun x hx => absurd hx List.not_mem_nil) (by decide) (by decide) (Nat.le_of_ble_eq_true rfl) (Nat.le_of_ble_eq_true rfl) (fun n1 hn1 => hPo_of hs hn1 aOff.rf hH) (Nat.le_of_ble_eq_true rfl) (Nat.le_of_ble_eq_true rfl)
  · skip
    have hs : sDeck σ x = (.inr xIAE, σ) := if_neg (by show ¬ (decide (2 ≤ x.toInt ∧ x.toInt ≤ 16)) = true; rw [c1]; decide)
    exact aw_throw (E := xIAE) (text := "cards is not 2 to 16") (names := xNs) (by decide +kernel) xNs_fit w_134 w_12 (by decide +kernel) at_IAE dX6_deck_7 dX6_deck_10 dX6_deck_11 dX6_deck_13 dX6_deck_16 (fun x hx => absurd hx List.not_mem_nil) (by decide) (by decide) (Nat.le_of_ble_eq_true rfl) (Nat.le_of_ble_eq_true rfl) (fun n1 hn1 => hPo_of hs hn1 aOff.rf hH) (Nat.le_of_ble_eq_true rfl) (Nat.le_of_ble_eq_true rfl)
set_option maxHeartbeats 4000000 in
set_option maxRecDepth 20000 in
/-- undo -/
theorem p_X6_undo (G : aG) {h : aH} {nx q c : Nat} {σ : aSg} (hH : HallAt h q σ) (hσ : sgOk c σ) (hc9 : c ≤ 512) (x : Int32) : aMet G mX6_undo 12 1 6 [.ref (q), .int (x)] h nx (hPo h q nx (sUndo σ x)) := by
  have h4 := hσ.1
  have h5 := hσ.2.1
  refine aMet_of rfl (Nat.le_of_ble_eq_true rfl) ?_
  show aw G mX6_undo [] (aRoom 12 1 6) (aEnd G (hPo h q nx (sUndo σ x)) 1 6) 0 0 h nx 0 [(0, .ref (q)), (1, .int (x))] []
  have hHc := hH
  obtain ⟨e1, e2, e3, ⟨z1, e4⟩, ⟨z2, e5⟩, ⟨z3, e6⟩, e7, e8⟩ := hHc
  refine aw_aload_n dX6_undo_0 rfl ?_
  refine aw_iload_n dX6_undo_1 rfl ?_
  by_cases hx : inD σ x = true
  rotate_left
  · skip
    have hs : sUndo σ x = (.inr xIOB, σ) := by unfold sUndo; rw [if_neg hx]
    exact aw_callVT (As := [.int (x)]) (rest := []) (t_X6_needDeck G hH x h4 (bf hx)) kX6_needDeck w_250 e1 rfl rfl rfl rfl (Nat.le_of_ble_eq_true rfl) dX6_undo_2 ⟨Nat.le_of_ble_eq_true rfl, Nat.le_of_ble_eq_true rfl⟩ ⟨Nat.le_of_ble_eq_true rfl, Nat.le_of_ble_eq_true rfl⟩ (Nat.le_of_ble_eq_true rfl) (Nat.le_of_ble_eq_true rfl) (fun n1 hn1 => hPo_of hs hn1 aOff.rf hH)
  obtain ⟨i, hxi, rfl⟩ := in_of hx (by omega)
  have hxd := hσ.2.2.2.1 i hxi
  have hxD := e7 i (by omega)
  obtain ⟨⟨l, ps, sc⟩, hxq⟩ : ∃ d, d = σ.1.getD i dk0 := ⟨_, rfl⟩
  rw [← hxq] at hxd hxD
  have hxI : dkI σ (nI i) = (l, ps, sc) := (dkI_i (by omega)).trans hxq.symm
  simp only [dkOk] at hxd
  obtain ⟨hxn, hxc, hxa, hxp, hxp4, hxs⟩ := hxd
  have hxD : DeckAt h (q + 12 + 45 * i) l ps sc := hxD
  refine aw_callVR (As := [.int (nI (i))]) (rest := []) (c_X6_needDeck G hH hxi h4) kX6_needDeck w_250 e1 rfl rfl rfl rfl (Nat.le_of_ble_eq_true rfl) dX6_undo_2 ⟨Nat.le_of_ble_eq_true rfl, Nat.le_of_ble_eq_true rfl⟩ ⟨Nat.le_of_ble_eq_true rfl, Nat.le_of_ble_eq_true rfl⟩ ?_
  refine aw_astore_n (L' := [(2, .ref (q + 12 + 45 * i)), (0, .ref (q)), (1, .int (nI (i)))]) dX6_undo_5 (by decide) rfl ?_
  refine aw_aload_n dX6_undo_6 rfl ?_
  have hlen : ∀ m ∈ ps, m.length = l.length := fun m hm => (hxp m hm).1.1
  refine aw_callVQ (As := []) (rest := []) (c_X1_takeBack G hxD hlen (by omega)) kX1_takeBack w_578 hxD.1 rfl rfl rfl rfl (Nat.le_of_ble_eq_true rfl) dX6_undo_7 ⟨Nat.le_of_ble_eq_true rfl, Nat.le_of_ble_eq_true rfl⟩ ⟨Nat.le_of_ble_eq_true rfl, Nat.le_of_ble_eq_true rfl⟩ (fun v_1 h_1 n_1 q_1 z_1 => ?_)
  obtain ⟨rfl, oT, ⟨hp0, rfl, rfl⟩ | ⟨m, ps2, rfl, rfl, hD2⟩⟩ := q_1
  · skip
    refine aw_if_neB (tgt := 15) dX6_undo_10 (by decide) (fun c3 => absurd c3 (by decide)) (fun c3 => ?_)
    have hs : sUndo σ (nI i) = (.inl (some (.int (-1))), σ) := by unfold sUndo; rw [if_pos hx, if_pos (by rw [hxI]; exact hp0)]
    refine aw_iconst dX6_undo_13 ic_m1 ?_
    exact aw_ireturn dX6_undo_14 rfl (hPo_of hs (Nat.le_refl _) aOff.rf hH) (Nat.le_of_ble_eq_true rfl) (Nat.le_of_ble_eq_true rfl)
  · skip
    refine aw_if_neB (tgt := 15) dX6_undo_10 (by decide) (fun c3 => ?_) (fun c3 => absurd c3 (by decide))
    have f_1 := (oT q (by omega)).trans e1
    have f_2 := (oT (q + 1) (by omega)).trans e2
    have f_3 := (oT (q + 2) (by omega)).trans e3
    refine aw_aload_n dX6_undo_15 rfl ?_
    refine aw_dup dX6_undo_16 rfl ?_
    refine aw_get 4 f_1 rfl rfl (by decide) w_98 rfl dX6_undo_17 ?_
    refine aw_ic dX6_undo_20 ic_1 ?_
    refine aw_iaddN dX6_undo_21 ?_
    refine aw_putV (v := .int (nI (σ.2.2 + 1))) (ty := .int) (fs' := [.ref (q + 1), .ref (q + 2), .int (nI (σ.1.length)), .int (nI (σ.2.1.length)), .int (nI (σ.2.2 + 1)), .ref (q + 3), .ref (q + 6), .ref (q + 9)]) 4 f_1 rfl rfl (by decide) (by decide +kernel) rfl rfl rfl (Nat.le_of_ble_eq_true rfl) rfl w_98 dX6_undo_22 (fun h_2 f_4 o_1 => ?_)
    have f_5 := (o_1 (q + 1) (by omega)).trans f_2
    have f_6 := (o_1 (q + 2) (by omega)).trans f_3
    have hD3 := hD2.keep (fun a g1 g2 => o_1 a (by omega))
    refine aw_aload_n dX6_undo_25 rfl ?_
    refine aw_callVR (As := []) (rest := []) (c_X1_row G hD3) kX1_row w_214 hD3.1 rfl rfl rfl rfl (Nat.le_of_ble_eq_true rfl) dX6_undo_26 ⟨Nat.le_of_ble_eq_true rfl, Nat.le_of_ble_eq_true rfl⟩ ⟨Nat.le_of_ble_eq_true rfl, Nat.le_of_ble_eq_true rfl⟩ ?_
    have hR3 := hD3.2.1
    obtain ⟨u_1f, u_1g, u_11, u_12, u_13, u_1l, u_1v⟩ := hR3
    have hm := hxp m (by simp)
    have hm0 := hm.1.2 0 (by rw [hm.1.1]; omega)
    refine aw_ic dX6_undo_29 ic_0 ?_
    refine aw_callVR (As := [.int (nI (0))]) (rest := []) (c_X3_numberAt G hD3.2.1 (by rw [hm.1.1]; omega) (by omega)) kX3_numberAt w_350 u_11 rfl rfl rfl rfl (Nat.le_of_ble_eq_true rfl) dX6_undo_30 ⟨Nat.le_of_ble_eq_true rfl, Nat.le_of_ble_eq_true rfl⟩ ⟨Nat.le_of_ble_eq_true rfl, Nat.le_of_ble_eq_true rfl⟩ ?_
    have hs : sUndo σ (nI i) = (.inl (some (.int (nI (m.getD 0 0 / 2)))), (σ.1.set i (m, ps2, sc - 1), σ.2.1, σ.2.2 + 1)) := by unfold sUndo; rw [if_pos hx, if_neg (by rw [hxI]; simp), hxI, nI_nat (by omega)]; rfl
    exact aw_ireturn dX6_undo_33 rfl (hPo_of hs (Nat.le_refl _) (fun a ha => (o_1 a (by omega)).trans (oT a (by omega))) (HallAt.taken (σ := (σ.1.set i (m, ps2, sc - 1), σ.2)) (hH.deck hxi h4 (fun a g1 g2 => oT a (by omega)) ⟨_, e4.keep (fun a g1 g2 => oT a (by omega))⟩ ⟨_, e5.keep (fun a g1 g2 => oT a (by omega))⟩ ⟨_, e6.keep (fun a g1 g2 => oT a (by omega))⟩ hD2) (by simp only [List.length_set]; exact f_4) o_1)) (Nat.le_of_ble_eq_true rfl) (Nat.le_of_ble_eq_true rfl)
set_option maxHeartbeats 4000000 in
set_option maxRecDepth 20000 in
/-- turn -/
theorem p_X6_turn (G : aG) {h : aH} {nx q c : Nat} {σ : aSg} (hH : HallAt h q σ) (hσ : sgOk c σ) (hc9 : c ≤ 512) (x p : Int32) : aMet G mX6_turn 12 1 6 [.ref (q), .int (x), .int (p)] h nx (hPo h q nx (sTurn σ x p)) := by
  have h4 := hσ.1
  have h5 := hσ.2.1
  refine aMet_of rfl (Nat.le_of_ble_eq_true rfl) ?_
  show aw G mX6_turn [] (aRoom 12 1 6) (aEnd G (hPo h q nx (sTurn σ x p)) 1 6) 0 0 h nx 0 [(0, .ref (q)), (1, .int (x)), (2, .int (p))] []
  have hHc := hH
  obtain ⟨e1, e2, e3, ⟨z1, e4⟩, ⟨z2, e5⟩, ⟨z3, e6⟩, e7, e8⟩ := hHc
  refine aw_aload_n dX6_turn_0 rfl ?_
  refine aw_iload_n dX6_turn_1 rfl ?_
  by_cases hx : inD σ x = true
  rotate_left
  · skip
    have hs : sTurn σ x p = (.inr xIOB, σ) := by unfold sTurn; rw [if_neg hx]
    exact aw_callVT (As := [.int (x)]) (rest := []) (t_X6_needDeck G hH x h4 (bf hx)) kX6_needDeck w_250 e1 rfl rfl rfl rfl (Nat.le_of_ble_eq_true rfl) dX6_turn_2 ⟨Nat.le_of_ble_eq_true rfl, Nat.le_of_ble_eq_true rfl⟩ ⟨Nat.le_of_ble_eq_true rfl, Nat.le_of_ble_eq_true rfl⟩ (Nat.le_of_ble_eq_true rfl) (Nat.le_of_ble_eq_true rfl) (fun n1 hn1 => hPo_of hs hn1 aOff.rf hH)
  obtain ⟨i, hxi, rfl⟩ := in_of hx (by omega)
  have hxd := hσ.2.2.2.1 i hxi
  have hxD := e7 i (by omega)
  obtain ⟨⟨l, ps, sc⟩, hxq⟩ : ∃ d, d = σ.1.getD i dk0 := ⟨_, rfl⟩
  rw [← hxq] at hxd hxD
  have hxI : dkI σ (nI i) = (l, ps, sc) := (dkI_i (by omega)).trans hxq.symm
  simp only [dkOk] at hxd
  obtain ⟨hxn, hxc, hxa, hxp, hxp4, hxs⟩ := hxd
  have hxD : DeckAt h (q + 12 + 45 * i) l ps sc := hxD
  refine aw_callVR (As := [.int (nI (i))]) (rest := []) (c_X6_needDeck G hH hxi h4) kX6_needDeck w_250 e1 rfl rfl rfl rfl (Nat.le_of_ble_eq_true rfl) dX6_turn_2 ⟨Nat.le_of_ble_eq_true rfl, Nat.le_of_ble_eq_true rfl⟩ ⟨Nat.le_of_ble_eq_true rfl, Nat.le_of_ble_eq_true rfl⟩ ?_
  refine aw_callVR (As := []) (rest := []) (c_X1_row G hxD) kX1_row w_214 hxD.1 rfl rfl rfl rfl (Nat.le_of_ble_eq_true rfl) dX6_turn_5 ⟨Nat.le_of_ble_eq_true rfl, Nat.le_of_ble_eq_true rfl⟩ ⟨Nat.le_of_ble_eq_true rfl, Nat.le_of_ble_eq_true rfl⟩ ?_
  refine aw_astore_n (L' := [(3, .ref (q + 12 + 45 * i + 1)), (0, .ref (q)), (1, .int (nI (i))), (2, .int (p))]) dX6_turn_8 (by decide) rfl ?_
  refine aw_aload_n dX6_turn_9 rfl ?_
  refine aw_iload_n dX6_turn_10 rfl ?_
  have hR := hxD.2.1
  by_cases hp : inP l p = true
  rotate_left
  · skip
    have hs : sTurn σ (nI i) p = (.inr xIOB, σ) := by unfold sTurn; rw [if_pos hx, hxI]; exact if_neg hp
    exact aw_callST (As := [.ref (q + 12 + 45 * i + 1), .int (p)]) (rest := []) (t_X6_needPosition G hxD.2.1 (bf hp)) kX6_needPosition w_345 rfl rfl (Nat.le_of_ble_eq_true rfl) dX6_turn_11 ⟨Nat.le_of_ble_eq_true rfl, Nat.le_of_ble_eq_true rfl⟩ ⟨Nat.le_of_ble_eq_true rfl, Nat.le_of_ble_eq_true rfl⟩ (Nat.le_of_ble_eq_true rfl) (Nat.le_of_ble_eq_true rfl) (fun n1 hn1 => hPo_of hs hn1 aOff.rf hH)
  refine aw_callSR (As := [.ref (q + 12 + 45 * i + 1), .int (p)]) (rest := []) (c_X6_needPosition G hxD.2.1 hp) kX6_needPosition w_345 rfl rfl (Nat.le_of_ble_eq_true rfl) dX6_turn_11 ⟨Nat.le_of_ble_eq_true rfl, Nat.le_of_ble_eq_true rfl⟩ ⟨Nat.le_of_ble_eq_true rfl, Nat.le_of_ble_eq_true rfl⟩ ?_
  obtain ⟨j, hpi, rfl⟩ := inP_nat hp hxn.2
  obtain ⟨u_1f, u_1g, u_11, u_12, u_13, u_1l, u_1v⟩ := hR
  refine aw_aload_n dX6_turn_14 rfl ?_
  refine aw_iload_n dX6_turn_15 rfl ?_
  have hlj := hxc.2 j hpi
  refine aw_callVQ (As := [.int (nI (j))]) (rest := []) (c_X3_turnAt G hxD.2.1 hpi) kX3_turnAt w_593 u_11 rfl rfl rfl rfl (Nat.le_of_ble_eq_true rfl) dX6_turn_16 ⟨Nat.le_of_ble_eq_true rfl, Nat.le_of_ble_eq_true rfl⟩ ⟨Nat.le_of_ble_eq_true rfl, Nat.le_of_ble_eq_true rfl⟩ (fun v_1 h_1 n_1 q_1 z_1 => ?_)
  obtain ⟨rfl, rfl, R_1, o_1⟩ := q_1
  have R_1c := R_1
  obtain ⟨u_2f, u_2g, u_21, u_22, u_23, u_2l, u_2v⟩ := R_1c
  refine aw_aload_n dX6_turn_19 rfl ?_
  refine aw_iload_n dX6_turn_20 rfl ?_
  have hx9 := xor1_half (l.getD j 0) 1 (by decide)
  refine aw_callVR (As := [.int (nI (j))]) (rest := []) (c_X3_isTurnedAt G R_1 (by rw [List.length_set]; exact hpi) (by rw [gD_set hpi, if_pos rfl]; omega)) kX3_isTurnedAt w_357 u_21 rfl rfl rfl rfl (Nat.le_of_ble_eq_true rfl) dX6_turn_21 ⟨Nat.le_of_ble_eq_true rfl, Nat.le_of_ble_eq_true rfl⟩ ⟨Nat.le_of_ble_eq_true rfl, Nat.le_of_ble_eq_true rfl⟩ ?_
  have hs : sTurn σ (nI i) (nI j) = (.inl (some (.int (bI (decide ((l.set j (l.getD j 0 ^^^ 1)).getD j 0 % 2 = 1))))), (σ.1.set i (l.set j (l.getD j 0 ^^^ 1), ps, sc), σ.2)) := by unfold sTurn setD turnD; rw [if_pos hx, hxI, if_pos hp, nI_nat (by omega), nI_nat (by omega)]
  exact aw_zreturn dX6_turn_24 rfl (bI_nar (decide ((l.set j (l.getD j 0 ^^^ 1)).getD j 0 % 2 = 1))) (hPo_of hs (Nat.le_refl _) (fun a ha => o_1 a (by omega)) (hH.deck hxi h4 (fun a g1 g2 => o_1 a (by omega)) ⟨_, e4.keep (fun a g1 g2 => o_1 a (by omega))⟩ ⟨_, e5.keep (fun a g1 g2 => o_1 a (by omega))⟩ ⟨_, e6.keep (fun a g1 g2 => o_1 a (by omega))⟩ (hxD.row R_1 (fun a g1 g2 g3 => o_1 a (by omega))))) (Nat.le_of_ble_eq_true rfl) (Nat.le_of_ble_eq_true rfl)
set_option maxHeartbeats 4000000 in
set_option maxRecDepth 20000 in
/-- sequence -/
theorem p_X6_sequence (G : aG) {h : aH} {nx q c : Nat} {σ : aSg} (hH : HallAt h q σ) (hσ : sgOk c σ) (hc9 : c ≤ 512)  : aMet G mX6_sequence 12 1 6 [.ref (q)] h nx (hPo h q nx (sSequence σ)) := by
  have h4 := hσ.1
  have h5 := hσ.2.1
  refine aMet_of rfl (Nat.le_of_ble_eq_true rfl) ?_
  show aw G mX6_sequence [] (aRoom 12 1 6) (aEnd G (hPo h q nx (sSequence σ)) 1 6) 0 0 h nx 0 [(0, .ref (q))] []
  have hHc := hH
  obtain ⟨e1, e2, e3, ⟨z1, e4⟩, ⟨z2, e5⟩, ⟨z3, e6⟩, e7, e8⟩ := hHc
  refine aw_aload_n dX6_sequence_0 rfl ?_
  refine aw_get 3 e1 rfl rfl (by decide) w_97 rfl dX6_sequence_1 ?_
  refine aw_ic dX6_sequence_4 ic_4 ?_
  refine aw_icmp_ltN (tgt := 18) (by omega) (by omega) dX6_sequence_5 (by decide) (fun c1 => ?_) (fun c1 => ?_)
  · skip
    have hs : sSequence σ = (.inl (some (.int (nI (σ.2.1.length + 1 - 1)))), (σ.1, σ.2.1 ++ [[]], σ.2.2)) := by unfold sSequence; rw [if_pos c1]; rfl
    refine aw_aload_n dX6_sequence_18 rfl ?_
    refine aw_dup dX6_sequence_19 rfl ?_
    refine aw_get 3 e1 rfl rfl (by decide) w_97 rfl dX6_sequence_20 ?_
    refine aw_ic dX6_sequence_23 ic_1 ?_
    refine aw_iaddN dX6_sequence_24 ?_
    refine aw_putV (v := .int (nI (σ.2.1.length + 1))) (ty := .int) (fs' := [.ref (q + 1), .ref (q + 2), .int (nI (σ.1.length)), .int (nI (σ.2.1.length + 1)), .int (nI (σ.2.2)), .ref (q + 3), .ref (q + 6), .ref (q + 9)]) 3 e1 rfl rfl (by decide) (by decide +kernel) rfl rfl rfl (Nat.le_of_ble_eq_true rfl) rfl w_97 dX6_sequence_25 (fun h_1 f_1 o_1 => ?_)
    have f_2 := (o_1 (q + 1) (by omega)).trans e2
    have f_3 := (o_1 (q + 2) (by omega)).trans e3
    refine aw_aload_n dX6_sequence_28 rfl ?_
    refine aw_get 3 f_1 rfl rfl (by decide) w_97 rfl dX6_sequence_29 ?_
    refine aw_ic dX6_sequence_32 ic_1 ?_
    refine aw_isubN (by omega) dX6_sequence_33 ?_
    exact aw_ireturn dX6_sequence_34 rfl (hPo_of hs (Nat.le_refl _) (fun a ha => o_1 a (by omega)) (hH.addSeq f_1 o_1)) (Nat.le_of_ble_eq_true rfl) (Nat.le_of_ble_eq_true rfl)
  · skip
    have hs : sSequence σ = (.inr xISE, σ) := if_neg (by omega)
    exact aw_throw (E := xISE) (text := "there are 4 sequences") (names := xNs) (by decide +kernel) xNs_fit w_514 w_13 (by decide +kernel) at_ISE dX6_sequence_8 dX6_sequence_11 dX6_sequence_12 dX6_sequence_14 dX6_sequence_17 (fun x hx => absurd hx List.not_mem_nil) (by decide) (by decide) (Nat.le_of_ble_eq_true rfl) (Nat.le_of_ble_eq_true rfl) (fun n1 hn1 => hPo_of hs hn1 aOff.rf hH) (Nat.le_of_ble_eq_true rfl) (Nat.le_of_ble_eq_true rfl)
set_option maxHeartbeats 4000000 in
set_option maxRecDepth 20000 in
/-- step -/
theorem p_X6_step (G : aG) {h : aH} {nx q c : Nat} {σ : aSg} (hH : HallAt h q σ) (hσ : sgOk c σ) (hc9 : c ≤ 512) (x k m : Int32) : aMet G mX6_step 12 1 6 [.ref (q), .int (x), .int (k), .int (m)] h nx (hPo h q nx (sStep σ x k m)) := by
  have h4 := hσ.1
  have h5 := hσ.2.1
  refine aMet_of rfl (Nat.le_of_ble_eq_true rfl) ?_
  show aw G mX6_step [] (aRoom 12 1 6) (aEnd G (hPo h q nx (sStep σ x k m)) 1 6) 0 0 h nx 0 [(0, .ref (q)), (1, .int (x)), (2, .int (k)), (3, .int (m))] []
  have hHc := hH
  obtain ⟨e1, e2, e3, ⟨z1, e4⟩, ⟨z2, e5⟩, ⟨z3, e6⟩, e7, e8⟩ := hHc
  refine aw_aload_n dX6_step_0 rfl ?_
  refine aw_iload_n dX6_step_1 rfl ?_
  by_cases hx : inS σ x = true
  rotate_left
  · skip
    have hs : sStep σ x k m = (.inr xIOB, σ) := by unfold sStep; rw [if_neg hx]
    exact aw_callVT (As := [.int (x)]) (rest := []) (t_X6_needSequence G hH x h5 (bf hx)) kX6_needSequence w_456 e1 rfl rfl rfl rfl (Nat.le_of_ble_eq_true rfl) dX6_step_2 ⟨Nat.le_of_ble_eq_true rfl, Nat.le_of_ble_eq_true rfl⟩ ⟨Nat.le_of_ble_eq_true rfl, Nat.le_of_ble_eq_true rfl⟩ (Nat.le_of_ble_eq_true rfl) (Nat.le_of_ble_eq_true rfl) (fun n1 hn1 => hPo_of hs hn1 aOff.rf hH)
  obtain ⟨i, hxi, rfl⟩ := in_of hx (by omega)
  have hxd := hσ.2.2.2.2 i hxi
  have hxD := e8 i (by omega)
  obtain ⟨st, hxq⟩ : ∃ d, d = σ.2.1.getD i [] := ⟨_, rfl⟩
  rw [← hxq] at hxd hxD
  have hxI : sqI σ (nI i) = st := (sqI_i (by omega)).trans hxq.symm
  refine aw_callVR (As := [.int (nI (i))]) (rest := []) (c_X6_needSequence G hH hxi h5) kX6_needSequence w_456 e1 rfl rfl rfl rfl (Nat.le_of_ble_eq_true rfl) dX6_step_2 ⟨Nat.le_of_ble_eq_true rfl, Nat.le_of_ble_eq_true rfl⟩ ⟨Nat.le_of_ble_eq_true rfl, Nat.le_of_ble_eq_true rfl⟩ ?_
  have hxE := hxD
  obtain ⟨s_1f, s_1g, s_11, s_12, s_13, s_1l, s_1v⟩ := hxE
  refine aw_astore (L' := [(4, .ref (q + 192 + 3 * i)), (0, .ref (q)), (1, .int (nI (i))), (2, .int (k)), (3, .int (m))]) dX6_step_5 (by decide) rfl ?_
  refine aw_iload_n dX6_step_7 rfl ?_
  refine aw_ic dX6_step_8 ic_0 ?_
  refine aw_bp (v := 9) dX6_step_9 (by decide) ?_
  refine aw_callSR (As := [.int (k), .int (nI (0)), .int (nI (9))]) (rest := []) (c_X6_isWithin G k (nI 0) (nI 9)) kX6_isWithin w_131 rfl rfl (Nat.le_of_ble_eq_true rfl) dX6_step_11 ⟨Nat.le_of_ble_eq_true rfl, Nat.le_of_ble_eq_true rfl⟩ ⟨Nat.le_of_ble_eq_true rfl, Nat.le_of_ble_eq_true rfl⟩ ?_
  have hk : decide ((nI 0).toInt ≤ k.toInt ∧ k.toInt ≤ (nI 9).toInt) = wIn k 0 9 := by rw [show (nI 0).toInt = 0 by decide, show (nI 9).toInt = 9 by decide]; rfl
  rw [hk]
  refine aw_if_eqB (tgt := 21) dX6_step_14 (by decide) (fun c1 => ?_) (fun c1 => ?_)
  · skip
    have hs : sStep σ (nI i) k m = (.inr xIAE, σ) := by unfold sStep; rw [if_pos hx, if_neg (by rw [c1]; simp)]
    exact aw_throw (E := xIAE) (text := "kind is not 0 to 9, or number below 0") (names := xNs) (by decide +kernel) xNs_fit w_134 w_12 (by decide +kernel) at_IAE dX6_step_21 dX6_step_24 dX6_step_25 dX6_step_27 dX6_step_30 (fun x hx => absurd hx List.not_mem_nil) (by decide) (by decide) (Nat.le_of_ble_eq_true rfl) (Nat.le_of_ble_eq_true rfl) (fun n1 hn1 => hPo_of hs hn1 aOff.rf hH) (Nat.le_of_ble_eq_true rfl) (Nat.le_of_ble_eq_true rfl)
  · skip
    refine aw_iload_n dX6_step_17 rfl ?_
    have e0 : (0 : Int32).toInt = 0 := (by decide)
    refine aw_if_ge (tgt := 31) dX6_step_18 (by decide) (fun c2 => ?_) (fun c2 => ?_)
    · skip
      have c2i : 0 ≤ m.toInt := by rw [Int32.le_iff_toInt_le] at c2; omega
      refine aw_aload dX6_step_31 rfl ?_
      refine aw_callVR (As := []) (rest := []) (c_X4_length G hxD) kX4_length w_461 s_11 rfl rfl rfl rfl (Nat.le_of_ble_eq_true rfl) dX6_step_33 ⟨Nat.le_of_ble_eq_true rfl, Nat.le_of_ble_eq_true rfl⟩ ⟨Nat.le_of_ble_eq_true rfl, Nat.le_of_ble_eq_true rfl⟩ ?_
      refine aw_bp (v := 8) dX6_step_36 (by decide) ?_
      refine aw_icmp_ltN (tgt := 51) (by omega) (by omega) dX6_step_38 (by decide) (fun c3 => ?_) (fun c3 => ?_)
      · skip
        obtain ⟨k1, -, hk1, rfl⟩ := wIn_nat (a := 0) (b := 9) c1 (by omega)
        obtain ⟨m1, hm1, rfl⟩ := nI_of (x := m) (by rw [Int32.lt_iff_toInt_lt]; omega)
        have hs : sStep σ (nI i) (nI k1) (nI m1) = (.inl (some (.int (nI (st ++ [(k1, m1)]).length))), (σ.1, σ.2.1.set i (st ++ [(k1, m1)]), σ.2.2)) := by unfold sStep; rw [if_pos hx, if_pos (by rw [c1, decide_eq_true c2i]; rfl), hxI, if_pos c3, nI_nat (by omega), nI_nat (by omega), nI_nat hm1, List.length_append]; rfl
        refine aw_aload dX6_step_51 rfl ?_
        refine aw_iload_n dX6_step_53 rfl ?_
        refine aw_iload_n dX6_step_54 rfl ?_
        refine aw_callVQ (As := [.int (nI (k1)), .int (nI (m1))]) (rest := []) (c_X4_add G hxD c3) kX4_add w_614 s_11 rfl rfl rfl rfl (Nat.le_of_ble_eq_true rfl) dX6_step_55 ⟨Nat.le_of_ble_eq_true rfl, Nat.le_of_ble_eq_true rfl⟩ ⟨Nat.le_of_ble_eq_true rfl, Nat.le_of_ble_eq_true rfl⟩ (fun v_1 h_1 n_1 q_1 z_1 => ?_)
        obtain ⟨rfl, rfl, R_1, o_1⟩ := q_1
        have R_1c := R_1
        obtain ⟨s_2f, s_2g, s_21, s_22, s_23, s_2l, s_2v⟩ := R_1c
        refine aw_aload dX6_step_58 rfl ?_
        refine aw_callVR (As := []) (rest := []) (c_X4_length G R_1) kX4_length w_461 s_21 rfl rfl rfl rfl (Nat.le_of_ble_eq_true rfl) dX6_step_60 ⟨Nat.le_of_ble_eq_true rfl, Nat.le_of_ble_eq_true rfl⟩ ⟨Nat.le_of_ble_eq_true rfl, Nat.le_of_ble_eq_true rfl⟩ ?_
        exact aw_ireturn dX6_step_63 rfl (hPo_of hs (Nat.le_refl _) (fun a ha => o_1 a (by omega)) (hH.seq hxi h5 (fun a ha => o_1 a (by omega)) R_1)) (Nat.le_of_ble_eq_true rfl) (Nat.le_of_ble_eq_true rfl)
      · skip
        have hs : sStep σ (nI i) k m = (.inr xISE, σ) := by unfold sStep; rw [if_pos hx, if_pos (by rw [c1, decide_eq_true c2i]; rfl), hxI, if_neg (by omega)]
        exact aw_throw (E := xISE) (text := "the sequence has 8 steps") (names := xNs) (by decide +kernel) xNs_fit w_514 w_13 (by decide +kernel) at_ISE dX6_step_41 dX6_step_44 dX6_step_45 dX6_step_47 dX6_step_50 (fun x hx => absurd hx List.not_mem_nil) (by decide) (by decide) (Nat.le_of_ble_eq_true rfl) (Nat.le_of_ble_eq_true rfl) (fun n1 hn1 => hPo_of hs hn1 aOff.rf hH) (Nat.le_of_ble_eq_true rfl) (Nat.le_of_ble_eq_true rfl)
    · skip
      have c2i : ¬ 0 ≤ m.toInt := by rw [Int32.le_iff_toInt_le] at c2; omega
      have hs : sStep σ (nI i) k m = (.inr xIAE, σ) := by unfold sStep; rw [if_pos hx, if_neg (by rw [c1, decide_eq_false c2i]; simp)]
      exact aw_throw (E := xIAE) (text := "kind is not 0 to 9, or number below 0") (names := xNs) (by decide +kernel) xNs_fit w_134 w_12 (by decide +kernel) at_IAE dX6_step_21 dX6_step_24 dX6_step_25 dX6_step_27 dX6_step_30 (fun x hx => absurd hx List.not_mem_nil) (by decide) (by decide) (Nat.le_of_ble_eq_true rfl) (Nat.le_of_ble_eq_true rfl) (fun n1 hn1 => hPo_of hs hn1 aOff.rf hH) (Nat.le_of_ble_eq_true rfl) (Nat.le_of_ble_eq_true rfl)
