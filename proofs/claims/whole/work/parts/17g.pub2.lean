set_option maxHeartbeats 4000000 in
set_option maxRecDepth 20000 in
/-- shuffle -/
theorem p_X6_shuffle (G : aG) {h : aH} {nx q c : Nat} {σ : aSg} (hH : HallAt h q σ) (hσ : sgOk c σ) (hc9 : c ≤ 512) (x k m t : Int32) : aMet G mX6_shuffle 12 1 6 [.ref (q), .int (x), .int (k), .int (m), .int (t)] h nx (hPo h q nx (sShuffle σ x k m t)) := by
  have h4 := hσ.1
  have h5 := hσ.2.1
  refine aMet_of rfl (Nat.le_of_ble_eq_true rfl) ?_
  show aw G mX6_shuffle [] (aRoom 12 1 6) (aEnd G (hPo h q nx (sShuffle σ x k m t)) 1 6) 0 0 h nx 0 [(0, .ref (q)), (1, .int (x)), (2, .int (k)), (3, .int (m)), (4, .int (t))] []
  have hHc := hH
  obtain ⟨e1, e2, e3, ⟨z1, e4⟩, ⟨z2, e5⟩, ⟨z3, e6⟩, e7, e8⟩ := hHc
  refine aw_aload_n dX6_shuffle_0 rfl ?_
  refine aw_iload_n dX6_shuffle_1 rfl ?_
  by_cases hx : inD σ x = true
  rotate_left
  · skip
    have hs : sShuffle σ x k m t = (.inr xIOB, σ) := by unfold sShuffle; rw [if_neg hx]
    exact aw_callVT (As := [.int (x)]) (rest := []) (t_X6_needDeck G hH x h4 (bf hx)) kX6_needDeck w_250 e1 rfl rfl rfl rfl (Nat.le_of_ble_eq_true rfl) dX6_shuffle_2 ⟨Nat.le_of_ble_eq_true rfl, Nat.le_of_ble_eq_true rfl⟩ ⟨Nat.le_of_ble_eq_true rfl, Nat.le_of_ble_eq_true rfl⟩ (Nat.le_of_ble_eq_true rfl) (Nat.le_of_ble_eq_true rfl) (fun n1 hn1 => hPo_of hs hn1 aOff.rf hH)
  obtain ⟨i, hxi, rfl⟩ := in_of hx (by omega)
  have hxd := hσ.2.2.2.1 i hxi
  have hxD := e7 i (by omega)
  obtain ⟨⟨l, ps, sc⟩, hxq⟩ : ∃ d, d = σ.1.getD i dk0 := ⟨_, rfl⟩
  rw [← hxq] at hxd hxD
  have hxI : dkI σ (nI i) = (l, ps, sc) := (dkI_i (by omega)).trans hxq.symm
  simp only [dkOk] at hxd
  obtain ⟨hxn, hxc, hxa, hxp, hxp4, hxs⟩ := hxd
  have hxD : DeckAt h (q + 12 + 45 * i) l ps sc := hxD
  refine aw_callVR (As := [.int (nI (i))]) (rest := []) (c_X6_needDeck G hH hxi h4) kX6_needDeck w_250 e1 rfl rfl rfl rfl (Nat.le_of_ble_eq_true rfl) dX6_shuffle_2 ⟨Nat.le_of_ble_eq_true rfl, Nat.le_of_ble_eq_true rfl⟩ ⟨Nat.le_of_ble_eq_true rfl, Nat.le_of_ble_eq_true rfl⟩ ?_
  refine aw_astore (L' := [(5, .ref (q + 12 + 45 * i)), (0, .ref (q)), (1, .int (nI (i))), (2, .int (k)), (3, .int (m)), (4, .int (t))]) dX6_shuffle_5 (by decide) rfl ?_
  refine aw_aload_n dX6_shuffle_7 rfl ?_
  refine aw_get 5 e1 rfl rfl (by decide) w_99 rfl dX6_shuffle_8 ?_
  refine aw_iload_n dX6_shuffle_11 rfl ?_
  refine aw_iload_n dX6_shuffle_12 rfl ?_
  refine aw_aload dX6_shuffle_13 rfl ?_
  refine aw_callVR (As := []) (rest := [.int (m), .int (k), .ref (q + 3)]) (c_X1_row G hxD) kX1_row w_214 hxD.1 rfl rfl rfl rfl (Nat.le_of_ble_eq_true rfl) dX6_shuffle_15 ⟨Nat.le_of_ble_eq_true rfl, Nat.le_of_ble_eq_true rfl⟩ ⟨Nat.le_of_ble_eq_true rfl, Nat.le_of_ble_eq_true rfl⟩ ?_
  have hR := hxD.2.1
  obtain ⟨u_1f, u_1g, u_11, u_12, u_13, u_1l, u_1v⟩ := hR
  refine aw_callVR (As := []) (rest := [.int (m), .int (k), .ref (q + 3)]) (c_X3_size G hxD.2.1) kX3_size w_218 u_11 rfl rfl rfl rfl (Nat.le_of_ble_eq_true rfl) dX6_shuffle_18 ⟨Nat.le_of_ble_eq_true rfl, Nat.le_of_ble_eq_true rfl⟩ ⟨Nat.le_of_ble_eq_true rfl, Nat.le_of_ble_eq_true rfl⟩ ?_
  refine aw_callSQ (As := [.ref (q + 3), .int (k), .int (m), .int (nI (l.length))]) (rest := []) (c_X5_lay G k m e4 hxn) kX5_lay w_369 rfl rfl (Nat.le_of_ble_eq_true rfl) dX6_shuffle_21 ⟨Nat.le_of_ble_eq_true rfl, Nat.le_of_ble_eq_true rfl⟩ ⟨Nat.le_of_ble_eq_true rfl, Nat.le_of_ble_eq_true rfl⟩ (fun v_1 h_1 n_1 q_1 z_1 => ?_)
  obtain ⟨rfl, oL, ⟨hO, rfl, rfl⟩ | ⟨hO, rfl, hL⟩⟩ := q_1
  · skip
    refine aw_if_neB (tgt := 37) dX6_shuffle_24 (by decide) (fun c3 => absurd c3 (by decide)) (fun c3 => ?_)
    have hs : sShuffle σ (nI i) k m t = (.inr xIAE, σ) := by unfold sShuffle; rw [if_pos hx, hxI, if_neg (by rw [hO]; simp)]
    exact aw_throw (E := xIAE) (text := "no shuffle for this deck") (names := xNs) (by decide +kernel) xNs_fit w_134 w_12 (by decide +kernel) at_IAE dX6_shuffle_27 dX6_shuffle_30 dX6_shuffle_31 dX6_shuffle_33 dX6_shuffle_36 (fun x hx => absurd hx List.not_mem_nil) (by decide) (by decide) (Nat.le_of_ble_eq_true rfl) (Nat.le_of_ble_eq_true rfl) (fun n1 hn1 => hPo_of hs hn1 aOff.rf hH) (Nat.le_of_ble_eq_true rfl) (Nat.le_of_ble_eq_true rfl)
  · skip
    refine aw_if_neB (tgt := 37) dX6_shuffle_24 (by decide) (fun c3 => ?_) (fun c3 => absurd c3 (by decide))
    have f_1 := (oL q (by omega)).trans e1
    have f_2 := (oL (q + 1) (by omega)).trans e2
    have f_3 := (oL (q + 2) (by omega)).trans e3
    refine aw_iload dX6_shuffle_37 rfl ?_
    by_cases ht : wIn t 1 1000000 = true
    rotate_left
    · skip
      have hs : sShuffle σ (nI i) k m t = (.inr xIAE, σ) := by unfold sShuffle; rw [if_pos hx, hxI, if_pos hO, if_neg ht]
      exact aw_callST (As := [.int (t)]) (rest := []) (t_X6_needOften G (bf ht)) kX6_needOften w_544 rfl rfl (Nat.le_of_ble_eq_true rfl) dX6_shuffle_39 ⟨Nat.le_of_ble_eq_true rfl, Nat.le_of_ble_eq_true rfl⟩ ⟨Nat.le_of_ble_eq_true rfl, Nat.le_of_ble_eq_true rfl⟩ (Nat.le_of_ble_eq_true rfl) (Nat.le_of_ble_eq_true rfl) (fun n1 hn1 => hPo_of hs hn1 (fun a ha => oL a (by omega)) (hH.rows (fun a ha => oL a (by omega)) ⟨_, hL⟩ ⟨_, e5.off oL (by omega)⟩ ⟨_, e6.off oL (by omega)⟩))
    refine aw_callSR (As := [.int (t)]) (rest := []) (c_X6_needOften G ht) kX6_needOften w_544 rfl rfl (Nat.le_of_ble_eq_true rfl) dX6_shuffle_39 ⟨Nat.le_of_ble_eq_true rfl, Nat.le_of_ble_eq_true rfl⟩ ⟨Nat.le_of_ble_eq_true rfl, Nat.le_of_ble_eq_true rfl⟩ ?_
    obtain ⟨u, hu1, hu2, rfl⟩ := wIn_nat (a := 1) (b := 1000000) ht (by omega)
    have hD2 := hxD.keep (fun a g1 g2 => oL a (by omega))
    refine aw_aload dX6_shuffle_42 rfl ?_
    refine aw_aload_n dX6_shuffle_44 rfl ?_
    refine aw_get 5 f_1 rfl rfl (by decide) w_99 rfl dX6_shuffle_45 ?_
    refine aw_iload dX6_shuffle_48 rfl ?_
    refine aw_callVQ (As := [.ref (q + 3), .int (nI (u))]) (rest := []) (c_X1_put G hD2 hL hxc (lay_cOkI hO) hxn.2 (by omega) (show u < 2 ^ 20 by omega) (by omega)) kX1_put w_549 hD2.1 rfl rfl rfl rfl (Nat.le_of_ble_eq_true rfl) dX6_shuffle_50 ⟨Nat.le_of_ble_eq_true rfl, Nat.le_of_ble_eq_true rfl⟩ ⟨Nat.le_of_ble_eq_true rfl, Nat.le_of_ble_eq_true rfl⟩ (fun v_2 h_2 n_2 q_2 z_2 => ?_)
    obtain ⟨rfl, rfl, hD3, hM3, oU⟩ := q_2
    refine aw_aload dX6_shuffle_53 rfl ?_
    refine aw_callVR (As := []) (rest := []) (c_X1_row G hD3) kX1_row w_214 hD3.1 rfl rfl rfl rfl (Nat.le_of_ble_eq_true rfl) dX6_shuffle_55 ⟨Nat.le_of_ble_eq_true rfl, Nat.le_of_ble_eq_true rfl⟩ ⟨Nat.le_of_ble_eq_true rfl, Nat.le_of_ble_eq_true rfl⟩ ?_
    have hR3 := hD3.2.1
    have hco := oft_cOk (d := 20) (k := u) hxc (lay_cOkI hO)
    have hco0 := hco.2 0 (by rw [hco.1]; omega)
    obtain ⟨u_2f, u_2g, u_21, u_22, u_23, u_2l, u_2v⟩ := hR3
    refine aw_ic dX6_shuffle_58 ic_0 ?_
    refine aw_callVR (As := [.int (nI (0))]) (rest := []) (c_X3_numberAt G hD3.2.1 (by rw [hco.1]; omega) (by omega)) kX3_numberAt w_350 u_21 rfl rfl rfl rfl (Nat.le_of_ble_eq_true rfl) dX6_shuffle_59 ⟨Nat.le_of_ble_eq_true rfl, Nat.le_of_ble_eq_true rfl⟩ ⟨Nat.le_of_ble_eq_true rfl, Nat.le_of_ble_eq_true rfl⟩ ?_
    have hs : sShuffle σ (nI i) k m (nI u) = (.inl (some (.int (nI ((oft 20 l (layL k.toInt.toNat m.toInt.toNat l.length) u).getD 0 0 / 2)))), (σ.1.set i (oft 20 l (layL k.toInt.toNat m.toInt.toNat l.length) u, (l :: ps).take 40, sc + 1), σ.2)) := by unfold sShuffle setD topD putD; rw [if_pos hx, hxI, if_pos hO, if_pos ht, nI_nat (by omega), nI_nat (by omega)]
    have oZ : ∀ a, (a < q + 3 ∨ q + 12 ≤ a) → (a < q + 12 + 45 * i ∨ q + 12 + 45 * i + 45 ≤ a) → h_2 a = h a := fun a g1 g2 => (oU a g2 (by omega)).trans (oL a (by omega))
    exact aw_ireturn dX6_shuffle_62 rfl (hPo_of hs (Nat.le_refl _) (fun a ha => oZ a (by omega) (by omega)) (hH.deck hxi h4 oZ hM3 ⟨_, (e5.off oL (by omega)).keep (fun a g1 g2 => oU a (by omega) (by omega))⟩ ⟨_, (e6.off oL (by omega)).keep (fun a g1 g2 => oU a (by omega) (by omega))⟩ hD3)) (Nat.le_of_ble_eq_true rfl) (Nat.le_of_ble_eq_true rfl)
set_option maxHeartbeats 4000000 in
set_option maxRecDepth 20000 in
/-- perform -/
theorem p_X6_perform (G : aG) {h : aH} {nx q c : Nat} {σ : aSg} (hH : HallAt h q σ) (hσ : sgOk c σ) (hc9 : c ≤ 512) (x y t : Int32) : aMet G mX6_perform 12 1 6 [.ref (q), .int (x), .int (y), .int (t)] h nx (hPo h q nx (sPerform σ x y t)) := by
  have h4 := hσ.1
  have h5 := hσ.2.1
  refine aMet_of rfl (Nat.le_of_ble_eq_true rfl) ?_
  show aw G mX6_perform [] (aRoom 12 1 6) (aEnd G (hPo h q nx (sPerform σ x y t)) 1 6) 0 0 h nx 0 [(0, .ref (q)), (1, .int (x)), (2, .int (y)), (3, .int (t))] []
  have hHc := hH
  obtain ⟨e1, e2, e3, ⟨z1, e4⟩, ⟨z2, e5⟩, ⟨z3, e6⟩, e7, e8⟩ := hHc
  refine aw_aload_n dX6_perform_0 rfl ?_
  refine aw_iload_n dX6_perform_1 rfl ?_
  by_cases hx : inD σ x = true
  rotate_left
  · skip
    have hs : sPerform σ x y t = (.inr xIOB, σ) := by unfold sPerform; rw [if_neg hx]
    exact aw_callVT (As := [.int (x)]) (rest := []) (t_X6_needDeck G hH x h4 (bf hx)) kX6_needDeck w_250 e1 rfl rfl rfl rfl (Nat.le_of_ble_eq_true rfl) dX6_perform_2 ⟨Nat.le_of_ble_eq_true rfl, Nat.le_of_ble_eq_true rfl⟩ ⟨Nat.le_of_ble_eq_true rfl, Nat.le_of_ble_eq_true rfl⟩ (Nat.le_of_ble_eq_true rfl) (Nat.le_of_ble_eq_true rfl) (fun n1 hn1 => hPo_of hs hn1 aOff.rf hH)
  obtain ⟨i, hxi, rfl⟩ := in_of hx (by omega)
  have hxd := hσ.2.2.2.1 i hxi
  have hxD := e7 i (by omega)
  obtain ⟨⟨l, ps, sc⟩, hxq⟩ : ∃ d, d = σ.1.getD i dk0 := ⟨_, rfl⟩
  rw [← hxq] at hxd hxD
  have hxI : dkI σ (nI i) = (l, ps, sc) := (dkI_i (by omega)).trans hxq.symm
  simp only [dkOk] at hxd
  obtain ⟨hxn, hxc, hxa, hxp, hxp4, hxs⟩ := hxd
  have hxD : DeckAt h (q + 12 + 45 * i) l ps sc := hxD
  refine aw_callVR (As := [.int (nI (i))]) (rest := []) (c_X6_needDeck G hH hxi h4) kX6_needDeck w_250 e1 rfl rfl rfl rfl (Nat.le_of_ble_eq_true rfl) dX6_perform_2 ⟨Nat.le_of_ble_eq_true rfl, Nat.le_of_ble_eq_true rfl⟩ ⟨Nat.le_of_ble_eq_true rfl, Nat.le_of_ble_eq_true rfl⟩ ?_
  refine aw_astore (L' := [(4, .ref (q + 12 + 45 * i)), (0, .ref (q)), (1, .int (nI (i))), (2, .int (y)), (3, .int (t))]) dX6_perform_5 (by decide) rfl ?_
  refine aw_aload_n dX6_perform_7 rfl ?_
  refine aw_iload_n dX6_perform_8 rfl ?_
  by_cases hy : inS σ y = true
  rotate_left
  · skip
    have hs : sPerform σ (nI i) y t = (.inr xIOB, σ) := by unfold sPerform; rw [if_pos hx, if_neg hy]
    exact aw_callVT (As := [.int (y)]) (rest := []) (t_X6_needSequence G hH y h5 (bf hy)) kX6_needSequence w_456 e1 rfl rfl rfl rfl (Nat.le_of_ble_eq_true rfl) dX6_perform_9 ⟨Nat.le_of_ble_eq_true rfl, Nat.le_of_ble_eq_true rfl⟩ ⟨Nat.le_of_ble_eq_true rfl, Nat.le_of_ble_eq_true rfl⟩ (Nat.le_of_ble_eq_true rfl) (Nat.le_of_ble_eq_true rfl) (fun n1 hn1 => hPo_of hs hn1 aOff.rf hH)
  obtain ⟨j, hyi, rfl⟩ := in_of hy (by omega)
  have hyd := hσ.2.2.2.2 j hyi
  have hyD := e8 j (by omega)
  obtain ⟨st, hyq⟩ : ∃ d, d = σ.2.1.getD j [] := ⟨_, rfl⟩
  rw [← hyq] at hyd hyD
  have hyI : sqI σ (nI j) = st := (sqI_i (by omega)).trans hyq.symm
  refine aw_callVR (As := [.int (nI (j))]) (rest := []) (c_X6_needSequence G hH hyi h5) kX6_needSequence w_456 e1 rfl rfl rfl rfl (Nat.le_of_ble_eq_true rfl) dX6_perform_9 ⟨Nat.le_of_ble_eq_true rfl, Nat.le_of_ble_eq_true rfl⟩ ⟨Nat.le_of_ble_eq_true rfl, Nat.le_of_ble_eq_true rfl⟩ ?_
  have hyE := hyD
  obtain ⟨s_1f, s_1g, s_11, s_12, s_13, s_1l, s_1v⟩ := hyE
  refine aw_astore (L' := [(5, .ref (q + 192 + 3 * j)), (4, .ref (q + 12 + 45 * i)), (0, .ref (q)), (1, .int (nI (i))), (2, .int (nI (j))), (3, .int (t))]) dX6_perform_12 (by decide) rfl ?_
  refine aw_iload_n dX6_perform_14 rfl ?_
  by_cases ht : wIn t 1 1000000 = true
  rotate_left
  · skip
    have hs : sPerform σ (nI i) (nI j) t = (.inr xIAE, σ) := by unfold sPerform; rw [if_pos hx, if_pos hy, if_neg ht]
    exact aw_callST (As := [.int (t)]) (rest := []) (t_X6_needOften G (bf ht)) kX6_needOften w_544 rfl rfl (Nat.le_of_ble_eq_true rfl) dX6_perform_15 ⟨Nat.le_of_ble_eq_true rfl, Nat.le_of_ble_eq_true rfl⟩ ⟨Nat.le_of_ble_eq_true rfl, Nat.le_of_ble_eq_true rfl⟩ (Nat.le_of_ble_eq_true rfl) (Nat.le_of_ble_eq_true rfl) (fun n1 hn1 => hPo_of hs hn1 aOff.rf hH)
  refine aw_callSR (As := [.int (t)]) (rest := []) (c_X6_needOften G ht) kX6_needOften w_544 rfl rfl (Nat.le_of_ble_eq_true rfl) dX6_perform_15 ⟨Nat.le_of_ble_eq_true rfl, Nat.le_of_ble_eq_true rfl⟩ ⟨Nat.le_of_ble_eq_true rfl, Nat.le_of_ble_eq_true rfl⟩ ?_
  obtain ⟨u, hu1, hu2, rfl⟩ := wIn_nat (a := 1) (b := 1000000) ht (by omega)
  refine aw_aload dX6_perform_18 rfl ?_
  refine aw_aload_n dX6_perform_20 rfl ?_
  refine aw_get 5 e1 rfl rfl (by decide) w_99 rfl dX6_perform_21 ?_
  refine aw_aload_n dX6_perform_24 rfl ?_
  refine aw_get 6 e1 rfl rfl (by decide) w_100 rfl dX6_perform_25 ?_
  refine aw_aload dX6_perform_28 rfl ?_
  refine aw_callVR (As := []) (rest := [.ref (q + 6), .ref (q + 3), .ref (q + 192 + 3 * j)]) (c_X1_row G hxD) kX1_row w_214 hxD.1 rfl rfl rfl rfl (Nat.le_of_ble_eq_true rfl) dX6_perform_30 ⟨Nat.le_of_ble_eq_true rfl, Nat.le_of_ble_eq_true rfl⟩ ⟨Nat.le_of_ble_eq_true rfl, Nat.le_of_ble_eq_true rfl⟩ ?_
  have hR := hxD.2.1
  obtain ⟨u_1f, u_1g, u_11, u_12, u_13, u_1l, u_1v⟩ := hR
  refine aw_callVR (As := []) (rest := [.ref (q + 6), .ref (q + 3), .ref (q + 192 + 3 * j)]) (c_X3_size G hxD.2.1) kX3_size w_218 u_11 rfl rfl rfl rfl (Nat.le_of_ble_eq_true rfl) dX6_perform_33 ⟨Nat.le_of_ble_eq_true rfl, Nat.le_of_ble_eq_true rfl⟩ ⟨Nat.le_of_ble_eq_true rfl, Nat.le_of_ble_eq_true rfl⟩ ?_
  refine aw_callVQ (As := [.ref (q + 3), .ref (q + 6), .int (nI (l.length))]) (rest := []) (c_X4_lay G hyD hyd e4 e5 hxn (by omega)) kX4_lay w_484 s_11 rfl rfl rfl rfl (Nat.le_of_ble_eq_true rfl) dX6_perform_36 ⟨Nat.le_of_ble_eq_true rfl, Nat.le_of_ble_eq_true rfl⟩ ⟨Nat.le_of_ble_eq_true rfl, Nat.le_of_ble_eq_true rfl⟩ (fun v_1 h_1 n_1 q_1 z_1 => ?_)
  obtain ⟨rfl, rfl, oL, hL2, y, hL, hLy⟩ := q_1
  have oL3 : ∀ a, (a < q + 3 ∨ q + 9 ≤ a) → h_1 a = h a := fun a ha => oL a (by omega) (by omega)
  cases hB : seqL st l.length with
  | none =>
    refine aw_if_neB (tgt := 52) dX6_perform_39 (by decide) (fun c3 => absurd c3 (by decide)) (fun c3 => ?_)
    have hs : sPerform σ (nI i) (nI j) (nI u) = (.inr xISE, σ) := by unfold sPerform; rw [if_pos hx, if_pos hy, if_pos ht, hxI, hyI, hB]
    exact aw_throw (E := xISE) (text := "a step is no shuffle for this deck") (names := xNs) (by decide +kernel) xNs_fit w_514 w_13 (by decide +kernel) at_ISE dX6_perform_42 dX6_perform_45 dX6_perform_46 dX6_perform_48 dX6_perform_51 (fun x hx => absurd hx List.not_mem_nil) (by decide) (by decide) (Nat.le_of_ble_eq_true rfl) (Nat.le_of_ble_eq_true rfl) (fun n1 hn1 => hPo_of hs hn1 (fun a ha => oL3 a (by omega)) (hH.rows (fun a ha => oL3 a (by omega)) ⟨_, hL⟩ hL2 ⟨_, e6.keep (fun a g1 g2 => oL3 a (by omega))⟩)) (Nat.le_of_ble_eq_true rfl) (Nat.le_of_ble_eq_true rfl)
  | some s =>
    have hys := hLy s hB
    subst hys
    refine aw_if_neB (tgt := 52) dX6_perform_39 (by decide) (fun c3 => ?_) (fun c3 => absurd c3 (by simp))
    have f_1 := (oL3 q (by omega)).trans e1
    have f_2 := (oL3 (q + 1) (by omega)).trans e2
    have f_3 := (oL3 (q + 2) (by omega)).trans e3
    have hD2 := hxD.keep (fun a g1 g2 => oL3 a (by omega))
    have hcy := seqL_cOk hB
    refine aw_aload dX6_perform_52 rfl ?_
    refine aw_aload_n dX6_perform_54 rfl ?_
    refine aw_get 5 f_1 rfl rfl (by decide) w_99 rfl dX6_perform_55 ?_
    refine aw_iload_n dX6_perform_58 rfl ?_
    refine aw_callVQ (As := [.ref (q + 3), .int (nI (u))]) (rest := []) (c_X1_put G hD2 hL hxc hcy hxn.2 (by omega) (show u < 2 ^ 20 by omega) (by omega)) kX1_put w_549 hD2.1 rfl rfl rfl rfl (Nat.le_of_ble_eq_true rfl) dX6_perform_59 ⟨Nat.le_of_ble_eq_true rfl, Nat.le_of_ble_eq_true rfl⟩ ⟨Nat.le_of_ble_eq_true rfl, Nat.le_of_ble_eq_true rfl⟩ (fun v_2 h_2 n_2 q_2 z_2 => ?_)
    obtain ⟨rfl, rfl, hD3, hM3, oU⟩ := q_2
    refine aw_aload dX6_perform_62 rfl ?_
    refine aw_callVR (As := []) (rest := []) (c_X1_row G hD3) kX1_row w_214 hD3.1 rfl rfl rfl rfl (Nat.le_of_ble_eq_true rfl) dX6_perform_64 ⟨Nat.le_of_ble_eq_true rfl, Nat.le_of_ble_eq_true rfl⟩ ⟨Nat.le_of_ble_eq_true rfl, Nat.le_of_ble_eq_true rfl⟩ ?_
    have hR3 := hD3.2.1
    have hco := oft_cOk (d := 20) (k := u) hxc hcy
    have hco0 := hco.2 0 (by rw [hco.1]; omega)
    obtain ⟨u_2f, u_2g, u_21, u_22, u_23, u_2l, u_2v⟩ := hR3
    refine aw_ic dX6_perform_67 ic_0 ?_
    refine aw_callVR (As := [.int (nI (0))]) (rest := []) (c_X3_numberAt G hD3.2.1 (by rw [hco.1]; omega) (by omega)) kX3_numberAt w_350 u_21 rfl rfl rfl rfl (Nat.le_of_ble_eq_true rfl) dX6_perform_68 ⟨Nat.le_of_ble_eq_true rfl, Nat.le_of_ble_eq_true rfl⟩ ⟨Nat.le_of_ble_eq_true rfl, Nat.le_of_ble_eq_true rfl⟩ ?_
    have hs : sPerform σ (nI i) (nI j) (nI u) = (.inl (some (.int (nI ((oft 20 l y u).getD 0 0 / 2)))), (σ.1.set i (oft 20 l y u, (l :: ps).take 40, sc + 1), σ.2)) := by unfold sPerform setD topD putD; rw [if_pos hx, if_pos hy, if_pos ht, hxI, hyI, hB]; dsimp only; rw [nI_nat (by omega), nI_nat (by omega)]
    have oZ : ∀ a, (a < q + 3 ∨ q + 12 ≤ a) → (a < q + 12 + 45 * i ∨ q + 12 + 45 * i + 45 ≤ a) → h_2 a = h a := fun a g1 g2 => (oU a g2 (by omega)).trans (oL3 a (by omega))
    exact aw_ireturn dX6_perform_71 rfl (hPo_of hs (Nat.le_refl _) (fun a ha => oZ a (by omega) (by omega)) (hH.deck hxi h4 oZ hM3 (by obtain ⟨y2, hy2⟩ := hL2; exact ⟨_, hy2.keep (fun a g1 g2 => oU a (by omega) (by omega))⟩) ⟨_, (e6.keep (fun a g1 g2 => oL3 a (by omega))).keep (fun a g1 g2 => oU a (by omega) (by omega))⟩ hD3)) (Nat.le_of_ble_eq_true rfl) (Nat.le_of_ble_eq_true rfl)
