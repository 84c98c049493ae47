set_option maxHeartbeats 4000000 in
set_option maxRecDepth 20000 in
/-- longestRise(row) -/
theorem c_X2_longestRise (G : aG) {h : aH} {nx r n : Nat} {l : List Nat} (hR : RowAt h r l) (hc : cOk n l) (hn : n ≤ 16) : aMet G mX2_longestRise 2 0 0 [.ref (r)] h nx (pI (nI (riseL l n)) h nx) := by
  have hR0 := hR
  have hl9 := hc.1
  refine aMet_of rfl (Nat.le_of_ble_eq_true rfl) ?_
  show aw G mX2_longestRise [] (aRoom 2 0 0) (aEnd G (pI (nI (riseL l n)) h nx) 0 0) 0 0 h nx 0 [(0, .ref (r))] []
  obtain ⟨u_1f, u_1g, u_11, u_12, u_13, u_1l, u_1v⟩ := hR
  refine aw_ic dX2_longestRise_0 ic_0 ?_
  refine aw_istore_n (L' := [(1, .int (nI (0))), (0, .ref (r))]) dX2_longestRise_1 (by decide) rfl ?_
  refine aw_ic dX2_longestRise_2 ic_0 ?_
  refine aw_istore_n (L' := [(2, .int (nI (0))), (1, .int (nI (0))), (0, .ref (r))]) dX2_longestRise_3 (by decide) rfl ?_
  have K : ∀ (d : Nat) (i e : Nat), n - i < d → (i ≤ n) → (e = rsF l i) → aw G mX2_longestRise [] (aRoom 2 0 0) (aEnd G (pI (nI (riseL l n)) h nx) 0 0) 0 0 h nx 4 [(0, .ref (r)), (1, .int (nI (e))), (2, .int (nI (i)))] [] := by
    intro d
    induction d with
    | zero => intro i e hMd; exact absurd hMd (Nat.not_lt_zero _)
    | succ d ih =>
      intro i e hMd hi he
      have hlt : e < 2 ^ 16 := by rw [he]; exact rsF_lt hc hn i hi
      refine aw_iload_n dX2_longestRise_4 rfl ?_
      refine aw_aload_n dX2_longestRise_5 rfl ?_
      refine aw_callVR (As := []) (rest := [.int (nI (i))]) (c_X3_size G hR0) kX3_size w_229 u_11 rfl rfl rfl rfl (Nat.le_of_ble_eq_true rfl) dX2_longestRise_6 ⟨Nat.le_of_ble_eq_true rfl, Nat.le_of_ble_eq_true rfl⟩ ⟨Nat.le_of_ble_eq_true rfl, Nat.le_of_ble_eq_true rfl⟩ ?_
      refine aw_icmp_geN (tgt := 48) (by omega) (by omega) dX2_longestRise_9 (by decide) (fun c1 => ?_) (fun c1 => ?_)
      · skip
        have e9 : i = n := by omega
        subst e9
        refine aw_iload_n dX2_longestRise_48 rfl ?_
        refine aw_callSR (As := [.int (nI (e))]) (rest := []) (c_bitCount G (m := e) hlt) kJ6_bitCount_0f7a4 w_320 rfl rfl (Nat.le_of_ble_eq_true rfl) dX2_longestRise_49 ⟨Nat.le_of_ble_eq_true rfl, Nat.le_of_ble_eq_true rfl⟩ ⟨Nat.le_of_ble_eq_true rfl, Nat.le_of_ble_eq_true rfl⟩ ?_
        exact aw_ireturn dX2_longestRise_52 rfl ⟨r_n (by rw [he]; rfl), rfl, rfl⟩ (Nat.le_of_ble_eq_true rfl) (Nat.le_of_ble_eq_true rfl)
      · skip
        have hv := hc.lt (i := i) (by omega)
        refine aw_aload_n dX2_longestRise_12 rfl ?_
        refine aw_iload_n dX2_longestRise_13 rfl ?_
        refine aw_callVR (As := [.int (nI (i))]) (rest := []) (c_X3_numberAt G hR0 (i := i) (by omega) (by omega)) kX3_numberAt w_299 u_11 rfl rfl rfl rfl (Nat.le_of_ble_eq_true rfl) dX2_longestRise_14 ⟨Nat.le_of_ble_eq_true rfl, Nat.le_of_ble_eq_true rfl⟩ ⟨Nat.le_of_ble_eq_true rfl, Nat.le_of_ble_eq_true rfl⟩ ?_
        obtain ⟨v, hv9⟩ : ∃ v, v = l.getD i 0 / 2 := ⟨_, rfl⟩
        rw [← hv9]
        rw [← hv9] at hv
        have ha := stepR_a (v := v) hlt
        refine aw_istore_n (L' := [(3, .int (nI (v))), (0, .ref (r)), (1, .int (nI (e))), (2, .int (nI (i)))]) dX2_longestRise_17 (by decide) rfl ?_
        refine aw_iload_n dX2_longestRise_18 rfl ?_
        refine aw_iload_n dX2_longestRise_19 rfl ?_
        refine aw_ishr dX2_longestRise_20 ?_
        refine aw_top (show ((nI (e)) >>> ((nI (v)) &&& 31)) = (nI (e / 2 ^ v)) from n_shr (by omega) v (by omega)) ?_
        refine aw_iload_n dX2_longestRise_21 rfl ?_
        refine aw_ishl dX2_longestRise_22 ?_
        refine aw_top (show ((nI (e / 2 ^ v)) <<< ((nI (v)) &&& 31)) = (nI (e / 2 ^ v * 2 ^ v)) from n_shl v (by omega) (by omega)) ?_
        refine aw_istore (L' := [(4, .int (nI (e / 2 ^ v * 2 ^ v))), (3, .int (nI (v))), (0, .ref (r)), (1, .int (nI (e))), (2, .int (nI (i)))]) dX2_longestRise_23 (by decide) rfl ?_
        refine aw_iload dX2_longestRise_25 rfl ?_
        refine aw_iload dX2_longestRise_27 rfl ?_
        refine aw_ineg dX2_longestRise_29 ?_
        refine aw_iand dX2_longestRise_30 ?_
        refine aw_top (show ((nI (e / 2 ^ v * 2 ^ v)) &&& (-(nI (e / 2 ^ v * 2 ^ v)))) = (nI (lowb (e / 2 ^ v * 2 ^ v))) from n_lowb ha) ?_
        refine aw_istore (L' := [(5, .int (nI (lowb (e / 2 ^ v * 2 ^ v)))), (4, .int (nI (e / 2 ^ v * 2 ^ v))), (3, .int (nI (v))), (0, .ref (r)), (1, .int (nI (e))), (2, .int (nI (i)))]) dX2_longestRise_31 (by decide) rfl ?_
        refine aw_iload_n dX2_longestRise_33 rfl ?_
        refine aw_iload dX2_longestRise_34 rfl ?_
        refine aw_ixor dX2_longestRise_36 ?_
        refine aw_top (show ((nI (e)) ^^^ (nI (lowb (e / 2 ^ v * 2 ^ v)))) = (nI (e ^^^ lowb (e / 2 ^ v * 2 ^ v))) from nI_xor _ _) ?_
        refine aw_ic dX2_longestRise_37 ic_1 ?_
        refine aw_iload_n dX2_longestRise_38 rfl ?_
        refine aw_ishl dX2_longestRise_39 ?_
        refine aw_top (show ((nI (1)) <<< ((nI (v)) &&& 31)) = (nI (2 ^ v)) from n_shl1 v (by omega)) ?_
        refine aw_ior dX2_longestRise_40 ?_
        refine aw_top (show ((nI (e ^^^ lowb (e / 2 ^ v * 2 ^ v))) ||| (nI (2 ^ v))) = (nI (stepR e v)) from n_or _ _) ?_
        refine aw_istore_n (L' := [(1, .int (nI (stepR e v))), (5, .int (nI (lowb (e / 2 ^ v * 2 ^ v)))), (4, .int (nI (e / 2 ^ v * 2 ^ v))), (3, .int (nI (v))), (0, .ref (r)), (2, .int (nI (i)))]) dX2_longestRise_41 (by decide) rfl ?_
        refine aw_iincN (k := 1) (L' := [(2, .int (nI (i + 1))), (1, .int (nI (stepR e v))), (5, .int (nI (lowb (e / 2 ^ v * 2 ^ v)))), (4, .int (nI (e / 2 ^ v * 2 ^ v))), (3, .int (nI (v))), (0, .ref (r))]) dX2_longestRise_42 (by decide) rfl (by decide) rfl ?_
        refine aw_goto (tgt := 4) dX2_longestRise_45 (by decide) ?_
        refine aw_sub (L' := [(0, .ref (r)), (1, .int (nI (stepR e v))), (2, .int (nI (i + 1)))]) [5, 1, 0] rfl ?_
        exact ih (i + 1) (stepR e v) (by omega) (by omega) (by rw [he, hv9]; rfl)
  refine aw_sub (L' := [(0, .ref (r)), (1, .int (nI (0))), (2, .int (nI (0)))]) [2, 1, 0] rfl ?_
  exact K (n + 1) 0 0 (by omega) (by omega) rfl
set_option maxHeartbeats 4000000 in
set_option maxRecDepth 20000 in
/-- card, asked rightly -/
theorem c_X6_card (G : aG) {h : aH} {nx q c : Nat} {σ : aSg} (hH : HallAt h q σ) (hσ : sgOk c σ) (hc9 : c ≤ 512) {i : Nat} {l : List Nat} {ps : List (List Nat)} {sc : Nat} (hxi : i < σ.1.length) (hdd : σ.1.getD i dk0 = (l, ps, sc)) {j : Nat} (hpi : j < l.length) : aMet G mX6_card 12 0 0 [.ref (q), .int (nI (i)), .int (nI (j))] h nx (pQ (fun v h1 n1 => v = some (.int (nI (l.getD j 0 / 2))) ∧ n1 = nx ∧ aOff h h1 q 204 ∧ HallAt h1 q σ)) := by
  have h4 := hσ.1
  have h5 := hσ.2.1
  refine aMet_of rfl (Nat.le_of_ble_eq_true rfl) ?_
  show aw G mX6_card [] (aRoom 12 0 0) (aEnd G (pQ (fun v h1 n1 => v = some (.int (nI (l.getD j 0 / 2))) ∧ n1 = nx ∧ aOff h h1 q 204 ∧ HallAt h1 q σ)) 0 0) 0 0 h nx 0 [(0, .ref (q)), (1, .int (nI (i))), (2, .int (nI (j)))] []
  have hHc := hH
  obtain ⟨e1, e2, e3, ⟨z1, e4⟩, ⟨z2, e5⟩, ⟨z3, e6⟩, e7, e8⟩ := hHc
  refine aw_aload_n dX6_card_0 rfl ?_
  refine aw_iload_n dX6_card_1 rfl ?_
  have hxd := hσ.2.2.2.1 i hxi
  have hxD := e7 i (by omega)
  rw [hdd] at hxd hxD
  simp only [dkOk] at hxd
  obtain ⟨hxn, hxc, hxa, hxp, hxp4, hxs⟩ := hxd
  have hxD : DeckAt h (q + 12 + 45 * i) l ps sc := hxD
  refine aw_callVR (As := [.int (nI (i))]) (rest := []) (c_X6_needDeck G hH hxi h4) kX6_needDeck w_250 e1 rfl rfl rfl rfl (Nat.le_of_ble_eq_true rfl) dX6_card_2 ⟨Nat.le_of_ble_eq_true rfl, Nat.le_of_ble_eq_true rfl⟩ ⟨Nat.le_of_ble_eq_true rfl, Nat.le_of_ble_eq_true rfl⟩ ?_
  refine aw_callVR (As := []) (rest := []) (c_X1_row G hxD) kX1_row w_214 hxD.1 rfl rfl rfl rfl (Nat.le_of_ble_eq_true rfl) dX6_card_5 ⟨Nat.le_of_ble_eq_true rfl, Nat.le_of_ble_eq_true rfl⟩ ⟨Nat.le_of_ble_eq_true rfl, Nat.le_of_ble_eq_true rfl⟩ ?_
  have hxR := hxD.2.1
  obtain ⟨u_1f, u_1g, u_11, u_12, u_13, u_1l, u_1v⟩ := hxR
  refine aw_astore_n (L' := [(3, .ref (q + 12 + 45 * i + 1)), (0, .ref (q)), (1, .int (nI (i))), (2, .int (nI (j)))]) dX6_card_8 (by decide) rfl ?_
  refine aw_aload_n dX6_card_9 rfl ?_
  refine aw_iload_n dX6_card_10 rfl ?_
  have hp := inP_i hpi hxn.2
  refine aw_callSR (As := [.ref (q + 12 + 45 * i + 1), .int (nI (j))]) (rest := []) (c_X6_needPosition G hxD.2.1 hp) kX6_needPosition w_345 rfl rfl (Nat.le_of_ble_eq_true rfl) dX6_card_11 ⟨Nat.le_of_ble_eq_true rfl, Nat.le_of_ble_eq_true rfl⟩ ⟨Nat.le_of_ble_eq_true rfl, Nat.le_of_ble_eq_true rfl⟩ ?_
  refine aw_aload_n dX6_card_14 rfl ?_
  refine aw_iload_n dX6_card_15 rfl ?_
  have hlj := hxc.2 j hpi
  refine aw_callVR (As := [.int (nI (j))]) (rest := []) (c_X3_numberAt G hxD.2.1 hpi (by omega)) kX3_numberAt w_350 u_11 rfl rfl rfl rfl (Nat.le_of_ble_eq_true rfl) dX6_card_16 ⟨Nat.le_of_ble_eq_true rfl, Nat.le_of_ble_eq_true rfl⟩ ⟨Nat.le_of_ble_eq_true rfl, Nat.le_of_ble_eq_true rfl⟩ ?_
  exact aw_ireturn dX6_card_19 rfl ⟨_, rfl, rfl, rfl, aOff.rf, hH⟩ (Nat.le_of_ble_eq_true rfl) (Nat.le_of_ble_eq_true rfl)
set_option maxHeartbeats 4000000 in
set_option maxRecDepth 20000 in
/-- find, asked rightly -/
theorem c_X6_find (G : aG) {h : aH} {nx q c : Nat} {σ : aSg} (hH : HallAt h q σ) (hσ : sgOk c σ) (hc9 : c ≤ 512) {i : Nat} {l : List Nat} {ps : List (List Nat)} {sc : Nat} (hxi : i < σ.1.length) (hdd : σ.1.getD i dk0 = (l, ps, sc)) {j : Nat} (hpi : j < l.length) : aMet G mX6_find 12 0 0 [.ref (q), .int (nI (i)), .int (nI (j)), .int (bI (true))] h nx (pQ (fun v h1 n1 => v = some (.int (nI (l.getD (ixOf l j) 0 % 2))) ∧ n1 = nx ∧ aOff h h1 q 204 ∧ HallAt h1 q σ)) := by
  have h4 := hσ.1
  have h5 := hσ.2.1
  refine aMet_of rfl (Nat.le_of_ble_eq_true rfl) ?_
  show aw G mX6_find [] (aRoom 12 0 0) (aEnd G (pQ (fun v h1 n1 => v = some (.int (nI (l.getD (ixOf l j) 0 % 2))) ∧ n1 = nx ∧ aOff h h1 q 204 ∧ HallAt h1 q σ)) 0 0) 0 0 h nx 0 [(0, .ref (q)), (1, .int (nI (i))), (2, .int (nI (j))), (3, .int (bI (true)))] []
  have hHc := hH
  obtain ⟨e1, e2, e3, ⟨z1, e4⟩, ⟨z2, e5⟩, ⟨z3, e6⟩, e7, e8⟩ := hHc
  refine aw_aload_n dX6_find_0 rfl ?_
  refine aw_iload_n dX6_find_1 rfl ?_
  have hxd := hσ.2.2.2.1 i hxi
  have hxD := e7 i (by omega)
  rw [hdd] at hxd hxD
  simp only [dkOk] at hxd
  obtain ⟨hxn, hxc, hxa, hxp, hxp4, hxs⟩ := hxd
  have hxD : DeckAt h (q + 12 + 45 * i) l ps sc := hxD
  refine aw_callVR (As := [.int (nI (i))]) (rest := []) (c_X6_needDeck G hH hxi h4) kX6_needDeck w_250 e1 rfl rfl rfl rfl (Nat.le_of_ble_eq_true rfl) dX6_find_2 ⟨Nat.le_of_ble_eq_true rfl, Nat.le_of_ble_eq_true rfl⟩ ⟨Nat.le_of_ble_eq_true rfl, Nat.le_of_ble_eq_true rfl⟩ ?_
  refine aw_callVR (As := []) (rest := []) (c_X1_row G hxD) kX1_row w_214 hxD.1 rfl rfl rfl rfl (Nat.le_of_ble_eq_true rfl) dX6_find_5 ⟨Nat.le_of_ble_eq_true rfl, Nat.le_of_ble_eq_true rfl⟩ ⟨Nat.le_of_ble_eq_true rfl, Nat.le_of_ble_eq_true rfl⟩ ?_
  have hxR := hxD.2.1
  obtain ⟨u_1f, u_1g, u_11, u_12, u_13, u_1l, u_1v⟩ := hxR
  refine aw_astore (L' := [(4, .ref (q + 12 + 45 * i + 1)), (0, .ref (q)), (1, .int (nI (i))), (2, .int (nI (j))), (3, .int (bI (true)))]) dX6_find_8 (by decide) rfl ?_
  refine aw_aload dX6_find_10 rfl ?_
  refine aw_iload_n dX6_find_12 rfl ?_
  have hp := inP_i hpi hxn.2
  refine aw_callVR (As := [.int (nI (j))]) (rest := []) (c_X3_has G (nI j) hxD.2.1) kX3_has w_348 u_11 rfl rfl rfl rfl (Nat.le_of_ble_eq_true rfl) dX6_find_13 ⟨Nat.le_of_ble_eq_true rfl, Nat.le_of_ble_eq_true rfl⟩ ⟨Nat.le_of_ble_eq_true rfl, Nat.le_of_ble_eq_true rfl⟩ ?_
  have hh := (has_eq (x := nI j) (k := l.length) (by omega)).trans hp
  refine aw_if_neB (tgt := 29) dX6_find_16 (by decide) (fun c1 => ?_) (fun c1 => absurd c1 (by rw [hh]; decide))
  refine aw_aload dX6_find_29 rfl ?_
  refine aw_iload_n dX6_find_31 rfl ?_
  have hix := ixOf_at hxa hpi
  have hlj := hxc.2 _ hix.1
  refine aw_callVR (As := [.int (nI (j))]) (rest := []) (c_X3_placeOf G hxD.2.1 hxc hxn.2 ⟨_, hix⟩) kX3_placeOf w_356 u_11 rfl rfl rfl rfl (Nat.le_of_ble_eq_true rfl) dX6_find_32 ⟨Nat.le_of_ble_eq_true rfl, Nat.le_of_ble_eq_true rfl⟩ ⟨Nat.le_of_ble_eq_true rfl, Nat.le_of_ble_eq_true rfl⟩ ?_
  refine aw_istore (L' := [(5, .int (nI (ixOf l j))), (4, .ref (q + 12 + 45 * i + 1)), (0, .ref (q)), (1, .int (nI (i))), (2, .int (nI (j))), (3, .int (bI (true)))]) dX6_find_35 (by decide) rfl ?_
  refine aw_iload_n dX6_find_37 rfl ?_
  refine aw_if_eqB (tgt := 57) dX6_find_38 (by decide) (fun c2 => absurd c2 (by decide)) (fun c2 => ?_)
  refine aw_aload dX6_find_41 rfl ?_
  refine aw_iload dX6_find_43 rfl ?_
  refine aw_callVR (As := [.int (nI (ixOf l j))]) (rest := []) (c_X3_isTurnedAt G hxD.2.1 hix.1 (by omega)) kX3_isTurnedAt w_357 u_11 rfl rfl rfl rfl (Nat.le_of_ble_eq_true rfl) dX6_find_45 ⟨Nat.le_of_ble_eq_true rfl, Nat.le_of_ble_eq_true rfl⟩ ⟨Nat.le_of_ble_eq_true rfl, Nat.le_of_ble_eq_true rfl⟩ ?_
  refine aw_if_eqB (tgt := 55) dX6_find_48 (by decide) (fun c3 => ?_) (fun c3 => ?_)
  · skip
    have c4 := of_decide_eq_false c3
    refine aw_ic dX6_find_55 ic_0 ?_
    exact aw_ireturn dX6_find_56 rfl ⟨_, rfl, congrArg (fun z => some (Value.int (nI z))) (show 0 = l.getD (ixOf l j) 0 % 2 by omega), rfl, aOff.rf, hH⟩ (Nat.le_of_ble_eq_true rfl) (Nat.le_of_ble_eq_true rfl)
  · skip
    have c4 := of_decide_eq_true c3
    refine aw_ic dX6_find_51 ic_1 ?_
    refine aw_goto (tgt := 56) dX6_find_52 (by decide) ?_
    exact aw_ireturn dX6_find_56 rfl ⟨_, rfl, congrArg (fun z => some (Value.int (nI z))) c4.symm, rfl, aOff.rf, hH⟩ (Nat.le_of_ble_eq_true rfl) (Nat.le_of_ble_eq_true rfl)
set_option maxHeartbeats 4000000 in
set_option maxRecDepth 20000 in
/-- card -/
theorem p_X6_card (G : aG) {h : aH} {nx q c : Nat} {σ : aSg} (hH : HallAt h q σ) (hσ : sgOk c σ) (hc9 : c ≤ 512) (x p : Int32) : aMet G mX6_card 12 1 6 [.ref (q), .int (x), .int (p)] h nx (hPo h q nx (sCard σ x p)) := by
  have h4 := hσ.1
  have h5 := hσ.2.1
  refine aMet_of rfl (Nat.le_of_ble_eq_true rfl) ?_
  show aw G mX6_card [] (aRoom 12 1 6) (aEnd G (hPo h q nx (sCard σ x p)) 1 6) 0 0 h nx 0 [(0, .ref (q)), (1, .int (x)), (2, .int (p))] []
  have hHc := hH
  obtain ⟨e1, e2, e3, ⟨z1, e4⟩, ⟨z2, e5⟩, ⟨z3, e6⟩, e7, e8⟩ := hHc
  refine aw_aload_n dX6_card_0 rfl ?_
  refine aw_iload_n dX6_card_1 rfl ?_
  by_cases hx : inD σ x = true
  rotate_left
  · skip
    have hs : sCard σ x p = (.inr xIOB, σ) := by unfold sCard; rw [if_neg hx]
    exact aw_callVT (As := [.int (x)]) (rest := []) (t_X6_needDeck G hH x h4 (bf hx)) kX6_needDeck w_250 e1 rfl rfl rfl rfl (Nat.le_of_ble_eq_true rfl) dX6_card_2 ⟨Nat.le_of_ble_eq_true rfl, Nat.le_of_ble_eq_true rfl⟩ ⟨Nat.le_of_ble_eq_true rfl, Nat.le_of_ble_eq_true rfl⟩ (Nat.le_of_ble_eq_true rfl) (Nat.le_of_ble_eq_true rfl) (fun n1 hn1 => hPo_of hs hn1 aOff.rf hH)
  obtain ⟨i, hxi, rfl⟩ := in_of hx (by omega)
  have hxd := hσ.2.2.2.1 i hxi
  have hxD := e7 i (by omega)
  obtain ⟨⟨l, ps, sc⟩, hxq⟩ : ∃ d, d = σ.1.getD i dk0 := ⟨_, rfl⟩
  rw [← hxq] at hxd hxD
  have hxI : dkI σ (nI i) = (l, ps, sc) := (dkI_i (by omega)).trans hxq.symm
  simp only [dkOk] at hxd
  obtain ⟨hxn, hxc, hxa, hxp, hxp4, hxs⟩ := hxd
  have hxD : DeckAt h (q + 12 + 45 * i) l ps sc := hxD
  refine aw_callVR (As := [.int (nI (i))]) (rest := []) (c_X6_needDeck G hH hxi h4) kX6_needDeck w_250 e1 rfl rfl rfl rfl (Nat.le_of_ble_eq_true rfl) dX6_card_2 ⟨Nat.le_of_ble_eq_true rfl, Nat.le_of_ble_eq_true rfl⟩ ⟨Nat.le_of_ble_eq_true rfl, Nat.le_of_ble_eq_true rfl⟩ ?_
  refine aw_callVR (As := []) (rest := []) (c_X1_row G hxD) kX1_row w_214 hxD.1 rfl rfl rfl rfl (Nat.le_of_ble_eq_true rfl) dX6_card_5 ⟨Nat.le_of_ble_eq_true rfl, Nat.le_of_ble_eq_true rfl⟩ ⟨Nat.le_of_ble_eq_true rfl, Nat.le_of_ble_eq_true rfl⟩ ?_
  have hxR := hxD.2.1
  obtain ⟨u_1f, u_1g, u_11, u_12, u_13, u_1l, u_1v⟩ := hxR
  refine aw_astore_n (L' := [(3, .ref (q + 12 + 45 * i + 1)), (0, .ref (q)), (1, .int (nI (i))), (2, .int (p))]) dX6_card_8 (by decide) rfl ?_
  refine aw_aload_n dX6_card_9 rfl ?_
  refine aw_iload_n dX6_card_10 rfl ?_
  by_cases hp : inP l p = true
  rotate_left
  · skip
    have hs : sCard σ (nI i) p = (.inr xIOB, σ) := by unfold sCard; rw [if_pos hx, hxI]; exact if_neg hp
    exact aw_callST (As := [.ref (q + 12 + 45 * i + 1), .int (p)]) (rest := []) (t_X6_needPosition G hxD.2.1 (bf hp)) kX6_needPosition w_345 rfl rfl (Nat.le_of_ble_eq_true rfl) dX6_card_11 ⟨Nat.le_of_ble_eq_true rfl, Nat.le_of_ble_eq_true rfl⟩ ⟨Nat.le_of_ble_eq_true rfl, Nat.le_of_ble_eq_true rfl⟩ (Nat.le_of_ble_eq_true rfl) (Nat.le_of_ble_eq_true rfl) (fun n1 hn1 => hPo_of hs hn1 aOff.rf hH)
  refine aw_callSR (As := [.ref (q + 12 + 45 * i + 1), .int (p)]) (rest := []) (c_X6_needPosition G hxD.2.1 hp) kX6_needPosition w_345 rfl rfl (Nat.le_of_ble_eq_true rfl) dX6_card_11 ⟨Nat.le_of_ble_eq_true rfl, Nat.le_of_ble_eq_true rfl⟩ ⟨Nat.le_of_ble_eq_true rfl, Nat.le_of_ble_eq_true rfl⟩ ?_
  obtain ⟨j, hpi, rfl⟩ := inP_nat hp hxn.2
  refine aw_aload_n dX6_card_14 rfl ?_
  refine aw_iload_n dX6_card_15 rfl ?_
  have hlj := hxc.2 j hpi
  refine aw_callVR (As := [.int (nI (j))]) (rest := []) (c_X3_numberAt G hxD.2.1 hpi (by omega)) kX3_numberAt w_350 u_11 rfl rfl rfl rfl (Nat.le_of_ble_eq_true rfl) dX6_card_16 ⟨Nat.le_of_ble_eq_true rfl, Nat.le_of_ble_eq_true rfl⟩ ⟨Nat.le_of_ble_eq_true rfl, Nat.le_of_ble_eq_true rfl⟩ ?_
  have hs : sCard σ (nI i) (nI j) = (.inl (some (.int (nI (l.getD j 0 / 2)))), σ) := by unfold sCard; rw [if_pos hx, hxI, if_pos hp, nI_nat (by omega)]
  exact aw_ireturn dX6_card_19 rfl (hPo_of hs (Nat.le_refl _) aOff.rf hH) (Nat.le_of_ble_eq_true rfl) (Nat.le_of_ble_eq_true rfl)
set_option maxHeartbeats 4000000 in
set_option maxRecDepth 20000 in
/-- find -/
theorem p_X6_find (G : aG) {h : aH} {nx q c : Nat} {σ : aSg} (hH : HallAt h q σ) (hσ : sgOk c σ) (hc9 : c ≤ 512) (x p : Int32) (b : Bool) : aMet G mX6_find 12 1 6 [.ref (q), .int (x), .int (p), .int (bI (b))] h nx (hPo h q nx (sFind σ x p b)) := by
  have h4 := hσ.1
  have h5 := hσ.2.1
  refine aMet_of rfl (Nat.le_of_ble_eq_true rfl) ?_
  show aw G mX6_find [] (aRoom 12 1 6) (aEnd G (hPo h q nx (sFind σ x p b)) 1 6) 0 0 h nx 0 [(0, .ref (q)), (1, .int (x)), (2, .int (p)), (3, .int (bI (b)))] []
  have hHc := hH
  obtain ⟨e1, e2, e3, ⟨z1, e4⟩, ⟨z2, e5⟩, ⟨z3, e6⟩, e7, e8⟩ := hHc
  refine aw_aload_n dX6_find_0 rfl ?_
  refine aw_iload_n dX6_find_1 rfl ?_
  by_cases hx : inD σ x = true
  rotate_left
  · skip
    have hs : sFind σ x p b = (.inr xIOB, σ) := by unfold sFind; rw [if_neg hx]
    exact aw_callVT (As := [.int (x)]) (rest := []) (t_X6_needDeck G hH x h4 (bf hx)) kX6_needDeck w_250 e1 rfl rfl rfl rfl (Nat.le_of_ble_eq_true rfl) dX6_find_2 ⟨Nat.le_of_ble_eq_true rfl, Nat.le_of_ble_eq_true rfl⟩ ⟨Nat.le_of_ble_eq_true rfl, Nat.le_of_ble_eq_true rfl⟩ (Nat.le_of_ble_eq_true rfl) (Nat.le_of_ble_eq_true rfl) (fun n1 hn1 => hPo_of hs hn1 aOff.rf hH)
  obtain ⟨i, hxi, rfl⟩ := in_of hx (by omega)
  have hxd := hσ.2.2.2.1 i hxi
  have hxD := e7 i (by omega)
  obtain ⟨⟨l, ps, sc⟩, hxq⟩ : ∃ d, d = σ.1.getD i dk0 := ⟨_, rfl⟩
  rw [← hxq] at hxd hxD
  have hxI : dkI σ (nI i) = (l, ps, sc) := (dkI_i (by omega)).trans hxq.symm
  simp only [dkOk] at hxd
  obtain ⟨hxn, hxc, hxa, hxp, hxp4, hxs⟩ := hxd
  have hxD : DeckAt h (q + 12 + 45 * i) l ps sc := hxD
  refine aw_callVR (As := [.int (nI (i))]) (rest := []) (c_X6_needDeck G hH hxi h4) kX6_needDeck w_250 e1 rfl rfl rfl rfl (Nat.le_of_ble_eq_true rfl) dX6_find_2 ⟨Nat.le_of_ble_eq_true rfl, Nat.le_of_ble_eq_true rfl⟩ ⟨Nat.le_of_ble_eq_true rfl, Nat.le_of_ble_eq_true rfl⟩ ?_
  refine aw_callVR (As := []) (rest := []) (c_X1_row G hxD) kX1_row w_214 hxD.1 rfl rfl rfl rfl (Nat.le_of_ble_eq_true rfl) dX6_find_5 ⟨Nat.le_of_ble_eq_true rfl, Nat.le_of_ble_eq_true rfl⟩ ⟨Nat.le_of_ble_eq_true rfl, Nat.le_of_ble_eq_true rfl⟩ ?_
  have hxR := hxD.2.1
  obtain ⟨u_1f, u_1g, u_11, u_12, u_13, u_1l, u_1v⟩ := hxR
  refine aw_astore (L' := [(4, .ref (q + 12 + 45 * i + 1)), (0, .ref (q)), (1, .int (nI (i))), (2, .int (p)), (3, .int (bI (b)))]) dX6_find_8 (by decide) rfl ?_
  refine aw_aload dX6_find_10 rfl ?_
  refine aw_iload_n dX6_find_12 rfl ?_
  by_cases hp : inP l p = true
  rotate_left
  · skip
    have hs : sFind σ (nI i) p b = (.inr xIOB, σ) := by unfold sFind; rw [if_pos hx, hxI]; exact if_neg hp
    refine aw_callVR (As := [.int (p)]) (rest := []) (c_X3_has G p hxD.2.1) kX3_has w_348 u_11 rfl rfl rfl rfl (Nat.le_of_ble_eq_true rfl) dX6_find_13 ⟨Nat.le_of_ble_eq_true rfl, Nat.le_of_ble_eq_true rfl⟩ ⟨Nat.le_of_ble_eq_true rfl, Nat.le_of_ble_eq_true rfl⟩ ?_
    have hh := (has_eq (x := p) (k := l.length) (by omega)).trans (bf hp)
    refine aw_if_neB (tgt := 29) dX6_find_16 (by decide) (fun c1 => absurd c1 (by rw [hh]; decide)) (fun c1 => ?_)
    exact aw_throw (E := xIOB) (text := "no such card") (names := xNs) (by decide +kernel) xNs_fit w_254 w_19 (by decide +kernel) at_IOB dX6_find_19 dX6_find_22 dX6_find_23 dX6_find_25 dX6_find_28 (fun x hx => absurd hx List.not_mem_nil) (by decide) (by decide) (Nat.le_of_ble_eq_true rfl) (Nat.le_of_ble_eq_true rfl) (fun n1 hn1 => hPo_of hs hn1 aOff.rf hH) (Nat.le_of_ble_eq_true rfl) (Nat.le_of_ble_eq_true rfl)
  obtain ⟨j, hpi, rfl⟩ := inP_nat hp hxn.2
  refine aw_callVR (As := [.int (nI (j))]) (rest := []) (c_X3_has G (nI j) hxD.2.1) kX3_has w_348 u_11 rfl rfl rfl rfl (Nat.le_of_ble_eq_true rfl) dX6_find_13 ⟨Nat.le_of_ble_eq_true rfl, Nat.le_of_ble_eq_true rfl⟩ ⟨Nat.le_of_ble_eq_true rfl, Nat.le_of_ble_eq_true rfl⟩ ?_
  have hh := (has_eq (x := nI j) (k := l.length) (by omega)).trans hp
  refine aw_if_neB (tgt := 29) dX6_find_16 (by decide) (fun c1 => ?_) (fun c1 => absurd c1 (by rw [hh]; decide))
  refine aw_aload dX6_find_29 rfl ?_
  refine aw_iload_n dX6_find_31 rfl ?_
  have hix := ixOf_at hxa hpi
  have hlj := hxc.2 _ hix.1
  refine aw_callVR (As := [.int (nI (j))]) (rest := []) (c_X3_placeOf G hxD.2.1 hxc hxn.2 ⟨_, hix⟩) kX3_placeOf w_356 u_11 rfl rfl rfl rfl (Nat.le_of_ble_eq_true rfl) dX6_find_32 ⟨Nat.le_of_ble_eq_true rfl, Nat.le_of_ble_eq_true rfl⟩ ⟨Nat.le_of_ble_eq_true rfl, Nat.le_of_ble_eq_true rfl⟩ ?_
  refine aw_istore (L' := [(5, .int (nI (ixOf l j))), (4, .ref (q + 12 + 45 * i + 1)), (0, .ref (q)), (1, .int (nI (i))), (2, .int (nI (j))), (3, .int (bI (b)))]) dX6_find_35 (by decide) rfl ?_
  refine aw_iload_n dX6_find_37 rfl ?_
  refine aw_if_eqB (tgt := 57) dX6_find_38 (by decide) (fun c2 => ?_) (fun c2 => ?_)
  · skip
    refine aw_iload dX6_find_57 rfl ?_
    have hs : sFind σ (nI i) (nI j) b = (.inl (some (.int (nI (ixOf l j)))), σ) := by unfold sFind; rw [if_pos hx, hxI, if_pos hp, nI_nat (by omega), if_neg (by rw [c2]; decide)]
    exact aw_ireturn dX6_find_59 rfl (hPo_of hs (Nat.le_refl _) aOff.rf hH) (Nat.le_of_ble_eq_true rfl) (Nat.le_of_ble_eq_true rfl)
  · skip
    refine aw_aload dX6_find_41 rfl ?_
    refine aw_iload dX6_find_43 rfl ?_
    refine aw_callVR (As := [.int (nI (ixOf l j))]) (rest := []) (c_X3_isTurnedAt G hxD.2.1 hix.1 (by omega)) kX3_isTurnedAt w_357 u_11 rfl rfl rfl rfl (Nat.le_of_ble_eq_true rfl) dX6_find_45 ⟨Nat.le_of_ble_eq_true rfl, Nat.le_of_ble_eq_true rfl⟩ ⟨Nat.le_of_ble_eq_true rfl, Nat.le_of_ble_eq_true rfl⟩ ?_
    refine aw_if_eqB (tgt := 55) dX6_find_48 (by decide) (fun c3 => ?_) (fun c3 => ?_)
    · skip
      have c4 := of_decide_eq_false c3
      refine aw_ic dX6_find_55 ic_0 ?_
      have hs : sFind σ (nI i) (nI j) b = (.inl (some (.int (nI 0))), σ) := by unfold sFind; rw [if_pos hx, hxI, if_pos hp, nI_nat (by omega), if_pos c2]; dsimp only; rw [show l.getD (ixOf l j) 0 % 2 = 0 by omega]
      exact aw_ireturn dX6_find_56 rfl (hPo_of hs (Nat.le_refl _) aOff.rf hH) (Nat.le_of_ble_eq_true rfl) (Nat.le_of_ble_eq_true rfl)
    · skip
      have c4 := of_decide_eq_true c3
      refine aw_ic dX6_find_51 ic_1 ?_
      refine aw_goto (tgt := 56) dX6_find_52 (by decide) ?_
      have hs : sFind σ (nI i) (nI j) b = (.inl (some (.int (nI 1))), σ) := by unfold sFind; rw [if_pos hx, hxI, if_pos hp, nI_nat (by omega), if_pos c2]; dsimp only; rw [c4]
      exact aw_ireturn dX6_find_56 rfl (hPo_of hs (Nat.le_refl _) aOff.rf hH) (Nat.le_of_ble_eq_true rfl) (Nat.le_of_ble_eq_true rfl)
set_option maxHeartbeats 4000000 in
set_option maxRecDepth 20000 in
/-- ofDeck, asked rightly -/
theorem c_X6_ofDeck (G : aG) {h : aH} {nx q c : Nat} {σ : aSg} (hH : HallAt h q σ) (hσ : sgOk c σ) (hc9 : c ≤ 512) {i : Nat} {l : List Nat} {ps : List (List Nat)} {sc : Nat} (hxi : i < σ.1.length) (hdd : σ.1.getD i dk0 = (l, ps, sc)) {u : Nat} (hwi : u ≤ 10) : aMet G mX6_ofDeck 12 0 0 [.ref (q), .int (nI (i)), .int (nI (u))] h nx (pQ (fun v h1 n1 => v = some (.int (nI (ofDk (l, ps, sc) u))) ∧ n1 = nx ∧ aOff h h1 q 204 ∧ HallAt h1 q σ)) := by
  have h4 := hσ.1
  have h5 := hσ.2.1
  refine aMet_of rfl (Nat.le_of_ble_eq_true rfl) ?_
  show aw G mX6_ofDeck [] (aRoom 12 0 0) (aEnd G (pQ (fun v h1 n1 => v = some (.int (nI (ofDk (l, ps, sc) u))) ∧ n1 = nx ∧ aOff h h1 q 204 ∧ HallAt h1 q σ)) 0 0) 0 0 h nx 0 [(0, .ref (q)), (1, .int (nI (i))), (2, .int (nI (u)))] []
  have hHc := hH
  obtain ⟨e1, e2, e3, ⟨z1, e4⟩, ⟨z2, e5⟩, ⟨z3, e6⟩, e7, e8⟩ := hHc
  refine aw_aload_n dX6_ofDeck_0 rfl ?_
  refine aw_iload_n dX6_ofDeck_1 rfl ?_
  have hxd := hσ.2.2.2.1 i hxi
  have hxD := e7 i (by omega)
  rw [hdd] at hxd hxD
  simp only [dkOk] at hxd
  obtain ⟨hxn, hxc, hxa, hxp, hxp4, hxs⟩ := hxd
  have hxD : DeckAt h (q + 12 + 45 * i) l ps sc := hxD
  refine aw_callVR (As := [.int (nI (i))]) (rest := []) (c_X6_needDeck G hH hxi h4) kX6_needDeck w_250 e1 rfl rfl rfl rfl (Nat.le_of_ble_eq_true rfl) dX6_ofDeck_2 ⟨Nat.le_of_ble_eq_true rfl, Nat.le_of_ble_eq_true rfl⟩ ⟨Nat.le_of_ble_eq_true rfl, Nat.le_of_ble_eq_true rfl⟩ ?_
  refine aw_astore_n (L' := [(3, .ref (q + 12 + 45 * i)), (0, .ref (q)), (1, .int (nI (i))), (2, .int (nI (u)))]) dX6_ofDeck_5 (by decide) rfl ?_
  refine aw_iload_n dX6_ofDeck_6 rfl ?_
  refine aw_bp (v := 10) dX6_ofDeck_7 (by decide) ?_
  have hw := wIn_i hwi (show 10 < 2 ^ 31 by omega)
  refine aw_callSR (As := [.int (nI (u)), .int (nI (10))]) (rest := []) (c_X6_needWhat G (b := 10) (by omega) hw) kX6_needWhat w_128 rfl rfl (Nat.le_of_ble_eq_true rfl) dX6_ofDeck_9 ⟨Nat.le_of_ble_eq_true rfl, Nat.le_of_ble_eq_true rfl⟩ ⟨Nat.le_of_ble_eq_true rfl, Nat.le_of_ble_eq_true rfl⟩ ?_
  refine aw_aload_n dX6_ofDeck_12 rfl ?_
  refine aw_callVR (As := []) (rest := []) (c_X1_row G hxD) kX1_row w_214 hxD.1 rfl rfl rfl rfl (Nat.le_of_ble_eq_true rfl) dX6_ofDeck_13 ⟨Nat.le_of_ble_eq_true rfl, Nat.le_of_ble_eq_true rfl⟩ ⟨Nat.le_of_ble_eq_true rfl, Nat.le_of_ble_eq_true rfl⟩ ?_
  have hxR := hxD.2.1
  obtain ⟨u_1f, u_1g, u_11, u_12, u_13, u_1l, u_1v⟩ := hxR
  refine aw_astore (L' := [(4, .ref (q + 12 + 45 * i + 1)), (3, .ref (q + 12 + 45 * i)), (0, .ref (q)), (1, .int (nI (i))), (2, .int (nI (u)))]) dX6_ofDeck_16 (by decide) rfl ?_
  refine aw_iload_n dX6_ofDeck_18 rfl ?_
  have hr16 := runs_le (l := l) (n := l.length)
  rcases (show u = 0 ∨ u = 1 ∨ u = 2 ∨ u = 3 ∨ u = 4 ∨ u = 5 ∨ u = 6 ∨ u = 7 ∨ u = 8 ∨ u = 9 ∨ u = 10 by omega) with rfl | rfl | rfl | rfl | rfl | rfl | rfl | rfl | rfl | rfl | rfl
  · skip
    refine aw_tableIn (off := 53) (tgt := 72) dX6_ofDeck_19 (by decide) (by decide) (by decide) (by decide) ?_
    refine aw_aload dX6_ofDeck_72 rfl ?_
    refine aw_callVR (As := []) (rest := []) (c_X3_size G hxD.2.1) kX3_size w_218 u_11 rfl rfl rfl rfl (Nat.le_of_ble_eq_true rfl) dX6_ofDeck_74 ⟨Nat.le_of_ble_eq_true rfl, Nat.le_of_ble_eq_true rfl⟩ ⟨Nat.le_of_ble_eq_true rfl, Nat.le_of_ble_eq_true rfl⟩ ?_
    exact aw_ireturn dX6_ofDeck_77 rfl ⟨_, rfl, rfl, rfl, aOff.rf, hH⟩ (Nat.le_of_ble_eq_true rfl) (Nat.le_of_ble_eq_true rfl)
  · skip
    refine aw_tableIn (off := 59) (tgt := 78) dX6_ofDeck_19 (by decide) (by decide) (by decide) (by decide) ?_
    refine aw_aload dX6_ofDeck_78 rfl ?_
    refine aw_callSR (As := [.ref (q + 12 + 45 * i + 1)]) (rest := []) (c_X0_count G hxD.2.1 hxc hxn.2) kX0_count w_270 rfl rfl (Nat.le_of_ble_eq_true rfl) dX6_ofDeck_80 ⟨Nat.le_of_ble_eq_true rfl, Nat.le_of_ble_eq_true rfl⟩ ⟨Nat.le_of_ble_eq_true rfl, Nat.le_of_ble_eq_true rfl⟩ ?_
    exact aw_ireturn dX6_ofDeck_83 rfl ⟨_, rfl, rfl, rfl, aOff.rf, hH⟩ (Nat.le_of_ble_eq_true rfl) (Nat.le_of_ble_eq_true rfl)
  · skip
    refine aw_tableIn (off := 65) (tgt := 84) dX6_ofDeck_19 (by decide) (by decide) (by decide) (by decide) ?_
    refine aw_aload dX6_ofDeck_84 rfl ?_
    refine aw_callSR (As := [.ref (q + 12 + 45 * i + 1)]) (rest := []) (c_X0_fixed G hxD.2.1 hxc hxn.2) kX0_fixed w_284 rfl rfl (Nat.le_of_ble_eq_true rfl) dX6_ofDeck_86 ⟨Nat.le_of_ble_eq_true rfl, Nat.le_of_ble_eq_true rfl⟩ ⟨Nat.le_of_ble_eq_true rfl, Nat.le_of_ble_eq_true rfl⟩ ?_
    exact aw_ireturn dX6_ofDeck_89 rfl ⟨_, rfl, rfl, rfl, aOff.rf, hH⟩ (Nat.le_of_ble_eq_true rfl) (Nat.le_of_ble_eq_true rfl)
  · skip
    refine aw_tableIn (off := 71) (tgt := 90) dX6_ofDeck_19 (by decide) (by decide) (by decide) (by decide) ?_
    refine aw_aload dX6_ofDeck_90 rfl ?_
    refine aw_callSR (As := [.ref (q + 12 + 45 * i + 1)]) (rest := []) (c_X0_placementPeriod G hxD.2.1 hxc hxn.2) kX0_placementPeriod w_287 rfl rfl (Nat.le_of_ble_eq_true rfl) dX6_ofDeck_92 ⟨Nat.le_of_ble_eq_true rfl, Nat.le_of_ble_eq_true rfl⟩ ⟨Nat.le_of_ble_eq_true rfl, Nat.le_of_ble_eq_true rfl⟩ ?_
    exact aw_ireturn dX6_ofDeck_95 rfl ⟨_, rfl, rfl, rfl, aOff.rf, hH⟩ (Nat.le_of_ble_eq_true rfl) (Nat.le_of_ble_eq_true rfl)
  · skip
    refine aw_tableIn (off := 77) (tgt := 96) dX6_ofDeck_19 (by decide) (by decide) (by decide) (by decide) ?_
    refine aw_aload dX6_ofDeck_96 rfl ?_
    refine aw_callSR (As := [.ref (q + 12 + 45 * i + 1)]) (rest := []) (c_X2_inversions G hxD.2.1 hxc hxn.2) kX2_inversions w_296 rfl rfl (Nat.le_of_ble_eq_true rfl) dX6_ofDeck_98 ⟨Nat.le_of_ble_eq_true rfl, Nat.le_of_ble_eq_true rfl⟩ ⟨Nat.le_of_ble_eq_true rfl, Nat.le_of_ble_eq_true rfl⟩ ?_
    exact aw_ireturn dX6_ofDeck_101 rfl ⟨_, rfl, rfl, rfl, aOff.rf, hH⟩ (Nat.le_of_ble_eq_true rfl) (Nat.le_of_ble_eq_true rfl)
  · skip
    refine aw_tableIn (off := 83) (tgt := 102) dX6_ofDeck_19 (by decide) (by decide) (by decide) (by decide) ?_
    refine aw_aload dX6_ofDeck_102 rfl ?_
    refine aw_callSR (As := [.ref (q + 12 + 45 * i + 1)]) (rest := []) (c_X2_risingRuns G hxD.2.1 hxc hxn.2 hxa (by omega)) kX2_risingRuns w_300 rfl rfl (Nat.le_of_ble_eq_true rfl) dX6_ofDeck_104 ⟨Nat.le_of_ble_eq_true rfl, Nat.le_of_ble_eq_true rfl⟩ ⟨Nat.le_of_ble_eq_true rfl, Nat.le_of_ble_eq_true rfl⟩ ?_
    exact aw_ireturn dX6_ofDeck_107 rfl ⟨_, rfl, rfl, rfl, aOff.rf, hH⟩ (Nat.le_of_ble_eq_true rfl) (Nat.le_of_ble_eq_true rfl)
  · skip
    refine aw_tableIn (off := 89) (tgt := 108) dX6_ofDeck_19 (by decide) (by decide) (by decide) (by decide) ?_
    refine aw_aload dX6_ofDeck_108 rfl ?_
    refine aw_callSR (As := [.ref (q + 12 + 45 * i + 1)]) (rest := []) (c_X2_risingRuns G hxD.2.1 hxc hxn.2 hxa (by omega)) kX2_risingRuns w_300 rfl rfl (Nat.le_of_ble_eq_true rfl) dX6_ofDeck_110 ⟨Nat.le_of_ble_eq_true rfl, Nat.le_of_ble_eq_true rfl⟩ ⟨Nat.le_of_ble_eq_true rfl, Nat.le_of_ble_eq_true rfl⟩ ?_
    refine aw_callSR (As := [.int (nI (runs l l.length))]) (rest := []) (c_X2_rifflesNeeded G (t := runs l l.length) (by omega)) kX2_rifflesNeeded w_308 rfl rfl (Nat.le_of_ble_eq_true rfl) dX6_ofDeck_113 ⟨Nat.le_of_ble_eq_true rfl, Nat.le_of_ble_eq_true rfl⟩ ⟨Nat.le_of_ble_eq_true rfl, Nat.le_of_ble_eq_true rfl⟩ ?_
    exact aw_ireturn dX6_ofDeck_116 rfl ⟨_, rfl, rfl, rfl, aOff.rf, hH⟩ (Nat.le_of_ble_eq_true rfl) (Nat.le_of_ble_eq_true rfl)
  · skip
    refine aw_tableIn (off := 98) (tgt := 117) dX6_ofDeck_19 (by decide) (by decide) (by decide) (by decide) ?_
    refine aw_aload dX6_ofDeck_117 rfl ?_
    refine aw_callSR (As := [.ref (q + 12 + 45 * i + 1)]) (rest := []) (c_X2_facesUp G hxD.2.1 hxc hxn.2) kX2_facesUp w_226 rfl rfl (Nat.le_of_ble_eq_true rfl) dX6_ofDeck_119 ⟨Nat.le_of_ble_eq_true rfl, Nat.le_of_ble_eq_true rfl⟩ ⟨Nat.le_of_ble_eq_true rfl, Nat.le_of_ble_eq_true rfl⟩ ?_
    exact aw_ireturn dX6_ofDeck_122 rfl ⟨_, rfl, rfl, rfl, aOff.rf, hH⟩ (Nat.le_of_ble_eq_true rfl) (Nat.le_of_ble_eq_true rfl)
  · skip
    refine aw_tableIn (off := 104) (tgt := 123) dX6_ofDeck_19 (by decide) (by decide) (by decide) (by decide) ?_
    refine aw_aload_n dX6_ofDeck_123 rfl ?_
    refine aw_callVR (As := []) (rest := []) (c_X1_shuffleCount G hxD) kX1_shuffleCount w_206 hxD.1 rfl rfl rfl rfl (Nat.le_of_ble_eq_true rfl) dX6_ofDeck_124 ⟨Nat.le_of_ble_eq_true rfl, Nat.le_of_ble_eq_true rfl⟩ ⟨Nat.le_of_ble_eq_true rfl, Nat.le_of_ble_eq_true rfl⟩ ?_
    exact aw_ireturn dX6_ofDeck_127 rfl ⟨_, rfl, rfl, rfl, aOff.rf, hH⟩ (Nat.le_of_ble_eq_true rfl) (Nat.le_of_ble_eq_true rfl)
  · skip
    refine aw_tableIn (off := 109) (tgt := 128) dX6_ofDeck_19 (by decide) (by decide) (by decide) (by decide) ?_
    refine aw_aload dX6_ofDeck_128 rfl ?_
    refine aw_callSR (As := [.ref (q + 12 + 45 * i + 1)]) (rest := []) (c_X0_longest G hxD.2.1 hxc hxn.2) kX0_longest w_311 rfl rfl (Nat.le_of_ble_eq_true rfl) dX6_ofDeck_130 ⟨Nat.le_of_ble_eq_true rfl, Nat.le_of_ble_eq_true rfl⟩ ⟨Nat.le_of_ble_eq_true rfl, Nat.le_of_ble_eq_true rfl⟩ ?_
    exact aw_ireturn dX6_ofDeck_133 rfl ⟨_, rfl, rfl, rfl, aOff.rf, hH⟩ (Nat.le_of_ble_eq_true rfl) (Nat.le_of_ble_eq_true rfl)
  · skip
    refine aw_tableOut (tgt := 134) dX6_ofDeck_19 (by decide) (by decide) ?_
    refine aw_aload dX6_ofDeck_134 rfl ?_
    refine aw_callSR (As := [.ref (q + 12 + 45 * i + 1)]) (rest := []) (c_X2_longestRise G hxD.2.1 hxc hxn.2) kX2_longestRise w_317 rfl rfl (Nat.le_of_ble_eq_true rfl) dX6_ofDeck_136 ⟨Nat.le_of_ble_eq_true rfl, Nat.le_of_ble_eq_true rfl⟩ ⟨Nat.le_of_ble_eq_true rfl, Nat.le_of_ble_eq_true rfl⟩ ?_
    exact aw_ireturn dX6_ofDeck_139 rfl ⟨_, rfl, rfl, rfl, aOff.rf, hH⟩ (Nat.le_of_ble_eq_true rfl) (Nat.le_of_ble_eq_true rfl)
set_option maxHeartbeats 4000000 in
set_option maxRecDepth 20000 in
/-- keeps, asked rightly -/
theorem c_X6_keeps (G : aG) {h : aH} {nx q c : Nat} {σ : aSg} (hH : HallAt h q σ) (hσ : sgOk c σ) (hc9 : c ≤ 512) {i : Nat} {l : List Nat} {ps : List (List Nat)} {sc : Nat} (hxi : i < σ.1.length) (hdd : σ.1.getD i dk0 = (l, ps, sc)) {u : Nat} (hwi : u ≤ 5) : aMet G mX6_keeps 12 0 0 [.ref (q), .int (nI (i)), .int (nI (u))] h nx (pQ (fun v h1 n1 => v = some (.int (bI (kpDk (l, ps, sc) u))) ∧ n1 = nx ∧ aOff h h1 q 204 ∧ HallAt h1 q σ)) := by
  have h4 := hσ.1
  have h5 := hσ.2.1
  refine aMet_of rfl (Nat.le_of_ble_eq_true rfl) ?_
  show aw G mX6_keeps [] (aRoom 12 0 0) (aEnd G (pQ (fun v h1 n1 => v = some (.int (bI (kpDk (l, ps, sc) u))) ∧ n1 = nx ∧ aOff h h1 q 204 ∧ HallAt h1 q σ)) 0 0) 0 0 h nx 0 [(0, .ref (q)), (1, .int (nI (i))), (2, .int (nI (u)))] []
  have hHc := hH
  obtain ⟨e1, e2, e3, ⟨z1, e4⟩, ⟨z2, e5⟩, ⟨z3, e6⟩, e7, e8⟩ := hHc
  refine aw_aload_n dX6_keeps_0 rfl ?_
  refine aw_iload_n dX6_keeps_1 rfl ?_
  have hxd := hσ.2.2.2.1 i hxi
  have hxD := e7 i (by omega)
  rw [hdd] at hxd hxD
  simp only [dkOk] at hxd
  obtain ⟨hxn, hxc, hxa, hxp, hxp4, hxs⟩ := hxd
  have hxD : DeckAt h (q + 12 + 45 * i) l ps sc := hxD
  refine aw_callVR (As := [.int (nI (i))]) (rest := []) (c_X6_needDeck G hH hxi h4) kX6_needDeck w_250 e1 rfl rfl rfl rfl (Nat.le_of_ble_eq_true rfl) dX6_keeps_2 ⟨Nat.le_of_ble_eq_true rfl, Nat.le_of_ble_eq_true rfl⟩ ⟨Nat.le_of_ble_eq_true rfl, Nat.le_of_ble_eq_true rfl⟩ ?_
  refine aw_callVR (As := []) (rest := []) (c_X1_row G hxD) kX1_row w_214 hxD.1 rfl rfl rfl rfl (Nat.le_of_ble_eq_true rfl) dX6_keeps_5 ⟨Nat.le_of_ble_eq_true rfl, Nat.le_of_ble_eq_true rfl⟩ ⟨Nat.le_of_ble_eq_true rfl, Nat.le_of_ble_eq_true rfl⟩ ?_
  have hxR := hxD.2.1
  obtain ⟨u_1f, u_1g, u_11, u_12, u_13, u_1l, u_1v⟩ := hxR
  refine aw_astore_n (L' := [(3, .ref (q + 12 + 45 * i + 1)), (0, .ref (q)), (1, .int (nI (i))), (2, .int (nI (u)))]) dX6_keeps_8 (by decide) rfl ?_
  refine aw_iload_n dX6_keeps_9 rfl ?_
  refine aw_ic dX6_keeps_10 ic_5 ?_
  have hw := wIn_i hwi (show 5 < 2 ^ 31 by omega)
  refine aw_callSR (As := [.int (nI (u)), .int (nI (5))]) (rest := []) (c_X6_needWhat G (b := 5) (by omega) hw) kX6_needWhat w_128 rfl rfl (Nat.le_of_ble_eq_true rfl) dX6_keeps_11 ⟨Nat.le_of_ble_eq_true rfl, Nat.le_of_ble_eq_true rfl⟩ ⟨Nat.le_of_ble_eq_true rfl, Nat.le_of_ble_eq_true rfl⟩ ?_
  refine aw_iload_n dX6_keeps_14 rfl ?_
  rcases (show u = 0 ∨ u = 1 ∨ u = 2 ∨ u = 3 ∨ u = 4 ∨ u = 5 by omega) with rfl | rfl | rfl | rfl | rfl | rfl
  · skip
    refine aw_tableIn (off := 33) (tgt := 48) dX6_keeps_15 (by decide) (by decide) (by decide) (by decide) ?_
    refine aw_aload_n dX6_keeps_48 rfl ?_
    refine aw_ic dX6_keeps_49 ic_2 ?_
    refine aw_callSR (As := [.ref (q + 12 + 45 * i + 1), .int (nI (2))]) (rest := []) (c_X2_keepsGroups G hxD.2.1 hxc hxn.2 (q := 2) (by decide) (by decide)) kX2_keepsGroups w_330 rfl rfl (Nat.le_of_ble_eq_true rfl) dX6_keeps_50 ⟨Nat.le_of_ble_eq_true rfl, Nat.le_of_ble_eq_true rfl⟩ ⟨Nat.le_of_ble_eq_true rfl, Nat.le_of_ble_eq_true rfl⟩ ?_
    exact aw_zreturn dX6_keeps_53 rfl (bI_nar (grps l l.length 2)) ⟨_, rfl, rfl, rfl, aOff.rf, hH⟩ (Nat.le_of_ble_eq_true rfl) (Nat.le_of_ble_eq_true rfl)
  · skip
    refine aw_tableIn (off := 39) (tgt := 54) dX6_keeps_15 (by decide) (by decide) (by decide) (by decide) ?_
    refine aw_aload_n dX6_keeps_54 rfl ?_
    refine aw_ic dX6_keeps_55 ic_4 ?_
    refine aw_callSR (As := [.ref (q + 12 + 45 * i + 1), .int (nI (4))]) (rest := []) (c_X2_keepsGroups G hxD.2.1 hxc hxn.2 (q := 4) (by decide) (by decide)) kX2_keepsGroups w_330 rfl rfl (Nat.le_of_ble_eq_true rfl) dX6_keeps_56 ⟨Nat.le_of_ble_eq_true rfl, Nat.le_of_ble_eq_true rfl⟩ ⟨Nat.le_of_ble_eq_true rfl, Nat.le_of_ble_eq_true rfl⟩ ?_
    exact aw_zreturn dX6_keeps_59 rfl (bI_nar (grps l l.length 4)) ⟨_, rfl, rfl, rfl, aOff.rf, hH⟩ (Nat.le_of_ble_eq_true rfl) (Nat.le_of_ble_eq_true rfl)
  · skip
    refine aw_tableIn (off := 45) (tgt := 60) dX6_keeps_15 (by decide) (by decide) (by decide) (by decide) ?_
    refine aw_aload_n dX6_keeps_60 rfl ?_
    refine aw_callSR (As := [.ref (q + 12 + 45 * i + 1)]) (rest := []) (c_X2_isWhole G hxD.2.1 hxc hxn.2 (by omega)) kX2_isWhole w_333 rfl rfl (Nat.le_of_ble_eq_true rfl) dX6_keeps_61 ⟨Nat.le_of_ble_eq_true rfl, Nat.le_of_ble_eq_true rfl⟩ ⟨Nat.le_of_ble_eq_true rfl, Nat.le_of_ble_eq_true rfl⟩ ?_
    exact aw_zreturn dX6_keeps_64 rfl (bI_nar (whol l l.length)) ⟨_, rfl, rfl, rfl, aOff.rf, hH⟩ (Nat.le_of_ble_eq_true rfl) (Nat.le_of_ble_eq_true rfl)
  · skip
    refine aw_tableIn (off := 50) (tgt := 65) dX6_keeps_15 (by decide) (by decide) (by decide) (by decide) ?_
    refine aw_aload_n dX6_keeps_65 rfl ?_
    refine aw_callSR (As := [.ref (q + 12 + 45 * i + 1)]) (rest := []) (c_X2_inversions G hxD.2.1 hxc hxn.2) kX2_inversions w_296 rfl rfl (Nat.le_of_ble_eq_true rfl) dX6_keeps_66 ⟨Nat.le_of_ble_eq_true rfl, Nat.le_of_ble_eq_true rfl⟩ ⟨Nat.le_of_ble_eq_true rfl, Nat.le_of_ble_eq_true rfl⟩ ?_
    have hiv := invs_lt hxc hxn.2
    refine aw_ic dX6_keeps_69 ic_2 ?_
    refine aw_iremN (by omega) (by omega) (by omega) dX6_keeps_70 ?_
    have hm2 := Nat.mod_lt (invs l l.length) (show 0 < 2 by decide)
    refine aw_if_neN (tgt := 78) (by omega) dX6_keeps_71 (by decide) (fun c5 => ?_) (fun c5 => ?_)
    · skip
      refine aw_ic dX6_keeps_78 ic_0 ?_
      exact aw_zreturn dX6_keeps_79 rfl (bI_nar false) ⟨_, rfl, by show some (Value.int (bI false)) = some (.int (bI (decide (invs l l.length % 2 = 0)))); rw [decide_eq_false (show ¬ invs l l.length % 2 = 0 by omega)], rfl, aOff.rf, hH⟩ (Nat.le_of_ble_eq_true rfl) (Nat.le_of_ble_eq_true rfl)
    · skip
      refine aw_ic dX6_keeps_74 ic_1 ?_
      refine aw_goto (tgt := 79) dX6_keeps_75 (by decide) ?_
      exact aw_zreturn dX6_keeps_79 rfl (bI_nar true) ⟨_, rfl, by show some (Value.int (bI true)) = some (.int (bI (decide (invs l l.length % 2 = 0)))); rw [decide_eq_true (show invs l l.length % 2 = 0 by omega)], rfl, aOff.rf, hH⟩ (Nat.le_of_ble_eq_true rfl) (Nat.le_of_ble_eq_true rfl)
  · skip
    refine aw_tableIn (off := 65) (tgt := 80) dX6_keeps_15 (by decide) (by decide) (by decide) (by decide) ?_
    refine aw_aload_n dX6_keeps_80 rfl ?_
    refine aw_callSR (As := [.ref (q + 12 + 45 * i + 1)]) (rest := []) (c_X0_fixed G hxD.2.1 hxc hxn.2) kX0_fixed w_284 rfl rfl (Nat.le_of_ble_eq_true rfl) dX6_keeps_81 ⟨Nat.le_of_ble_eq_true rfl, Nat.le_of_ble_eq_true rfl⟩ ⟨Nat.le_of_ble_eq_true rfl, Nat.le_of_ble_eq_true rfl⟩ ?_
    have hfx := fixs_le (l := l) (n := l.length)
    refine aw_aload_n dX6_keeps_84 rfl ?_
    refine aw_callVR (As := []) (rest := [.int (nI (fixs l l.length))]) (c_X3_size G hxD.2.1) kX3_size w_218 u_11 rfl rfl rfl rfl (Nat.le_of_ble_eq_true rfl) dX6_keeps_85 ⟨Nat.le_of_ble_eq_true rfl, Nat.le_of_ble_eq_true rfl⟩ ⟨Nat.le_of_ble_eq_true rfl, Nat.le_of_ble_eq_true rfl⟩ ?_
    refine aw_icmp_neN (tgt := 95) (by omega) (by omega) dX6_keeps_88 (by decide) (fun c5 => ?_) (fun c5 => ?_)
    · skip
      refine aw_ic dX6_keeps_95 ic_0 ?_
      exact aw_zreturn dX6_keeps_96 rfl (bI_nar false) ⟨_, rfl, by show some (Value.int (bI false)) = some (.int (bI (decide (fixs l l.length = l.length)))); rw [decide_eq_false (show ¬ fixs l l.length = l.length by omega)], rfl, aOff.rf, hH⟩ (Nat.le_of_ble_eq_true rfl) (Nat.le_of_ble_eq_true rfl)
    · skip
      refine aw_ic dX6_keeps_91 ic_1 ?_
      refine aw_goto (tgt := 96) dX6_keeps_92 (by decide) ?_
      exact aw_zreturn dX6_keeps_96 rfl (bI_nar true) ⟨_, rfl, by show some (Value.int (bI true)) = some (.int (bI (decide (fixs l l.length = l.length)))); rw [decide_eq_true (show fixs l l.length = l.length by omega)], rfl, aOff.rf, hH⟩ (Nat.le_of_ble_eq_true rfl) (Nat.le_of_ble_eq_true rfl)
  · skip
    refine aw_tableOut (tgt := 97) dX6_keeps_15 (by decide) (by decide) ?_
    refine aw_aload_n dX6_keeps_97 rfl ?_
    refine aw_callSR (As := [.ref (q + 12 + 45 * i + 1)]) (rest := []) (c_X2_isMirrored G hxD.2.1 hxc hxn.2 (by omega)) kX2_isMirrored w_338 rfl rfl (Nat.le_of_ble_eq_true rfl) dX6_keeps_98 ⟨Nat.le_of_ble_eq_true rfl, Nat.le_of_ble_eq_true rfl⟩ ⟨Nat.le_of_ble_eq_true rfl, Nat.le_of_ble_eq_true rfl⟩ ?_
    exact aw_zreturn dX6_keeps_101 rfl (bI_nar (mirr l l.length)) ⟨_, rfl, rfl, rfl, aOff.rf, hH⟩ (Nat.le_of_ble_eq_true rfl) (Nat.le_of_ble_eq_true rfl)
set_option maxHeartbeats 4000000 in
set_option maxRecDepth 20000 in
/-- ofDeck -/
theorem p_X6_ofDeck (G : aG) {h : aH} {nx q c : Nat} {σ : aSg} (hH : HallAt h q σ) (hσ : sgOk c σ) (hc9 : c ≤ 512) (x w : Int32) : aMet G mX6_ofDeck 12 1 6 [.ref (q), .int (x), .int (w)] h nx (hPo h q nx (sOfDeck σ x w)) := by
  have h4 := hσ.1
  have h5 := hσ.2.1
  refine aMet_of rfl (Nat.le_of_ble_eq_true rfl) ?_
  show aw G mX6_ofDeck [] (aRoom 12 1 6) (aEnd G (hPo h q nx (sOfDeck σ x w)) 1 6) 0 0 h nx 0 [(0, .ref (q)), (1, .int (x)), (2, .int (w))] []
  have hHc := hH
  obtain ⟨e1, e2, e3, ⟨z1, e4⟩, ⟨z2, e5⟩, ⟨z3, e6⟩, e7, e8⟩ := hHc
  refine aw_aload_n dX6_ofDeck_0 rfl ?_
  refine aw_iload_n dX6_ofDeck_1 rfl ?_
  by_cases hx : inD σ x = true
  rotate_left
  · skip
    have hs : sOfDeck σ x w = (.inr xIOB, σ) := by unfold sOfDeck; rw [if_neg hx]
    exact aw_callVT (As := [.int (x)]) (rest := []) (t_X6_needDeck G hH x h4 (bf hx)) kX6_needDeck w_250 e1 rfl rfl rfl rfl (Nat.le_of_ble_eq_true rfl) dX6_ofDeck_2 ⟨Nat.le_of_ble_eq_true rfl, Nat.le_of_ble_eq_true rfl⟩ ⟨Nat.le_of_ble_eq_true rfl, Nat.le_of_ble_eq_true rfl⟩ (Nat.le_of_ble_eq_true rfl) (Nat.le_of_ble_eq_true rfl) (fun n1 hn1 => hPo_of hs hn1 aOff.rf hH)
  obtain ⟨i, hxi, rfl⟩ := in_of hx (by omega)
  have hxd := hσ.2.2.2.1 i hxi
  have hxD := e7 i (by omega)
  obtain ⟨⟨l, ps, sc⟩, hxq⟩ : ∃ d, d = σ.1.getD i dk0 := ⟨_, rfl⟩
  rw [← hxq] at hxd hxD
  have hxI : dkI σ (nI i) = (l, ps, sc) := (dkI_i (by omega)).trans hxq.symm
  simp only [dkOk] at hxd
  obtain ⟨hxn, hxc, hxa, hxp, hxp4, hxs⟩ := hxd
  have hxD : DeckAt h (q + 12 + 45 * i) l ps sc := hxD
  refine aw_callVR (As := [.int (nI (i))]) (rest := []) (c_X6_needDeck G hH hxi h4) kX6_needDeck w_250 e1 rfl rfl rfl rfl (Nat.le_of_ble_eq_true rfl) dX6_ofDeck_2 ⟨Nat.le_of_ble_eq_true rfl, Nat.le_of_ble_eq_true rfl⟩ ⟨Nat.le_of_ble_eq_true rfl, Nat.le_of_ble_eq_true rfl⟩ ?_
  refine aw_astore_n (L' := [(3, .ref (q + 12 + 45 * i)), (0, .ref (q)), (1, .int (nI (i))), (2, .int (w))]) dX6_ofDeck_5 (by decide) rfl ?_
  refine aw_iload_n dX6_ofDeck_6 rfl ?_
  refine aw_bp (v := 10) dX6_ofDeck_7 (by decide) ?_
  by_cases hw : wIn w 0 10 = true
  rotate_left
  · skip
    have hs : sOfDeck σ (nI i) w = (.inr xIAE, σ) := by unfold sOfDeck; rw [if_pos hx, hxI]; exact if_neg hw
    exact aw_callST (As := [.int (w), .int (nI (10))]) (rest := []) (t_X6_needWhat G (b := 10) (by omega) (bf hw)) kX6_needWhat w_128 rfl rfl (Nat.le_of_ble_eq_true rfl) dX6_ofDeck_9 ⟨Nat.le_of_ble_eq_true rfl, Nat.le_of_ble_eq_true rfl⟩ ⟨Nat.le_of_ble_eq_true rfl, Nat.le_of_ble_eq_true rfl⟩ (Nat.le_of_ble_eq_true rfl) (Nat.le_of_ble_eq_true rfl) (fun n1 hn1 => hPo_of hs hn1 aOff.rf hH)
  refine aw_callSR (As := [.int (w), .int (nI (10))]) (rest := []) (c_X6_needWhat G (b := 10) (by omega) hw) kX6_needWhat w_128 rfl rfl (Nat.le_of_ble_eq_true rfl) dX6_ofDeck_9 ⟨Nat.le_of_ble_eq_true rfl, Nat.le_of_ble_eq_true rfl⟩ ⟨Nat.le_of_ble_eq_true rfl, Nat.le_of_ble_eq_true rfl⟩ ?_
  obtain ⟨u, -, hwi, rfl⟩ := wIn_nat (a := 0) (b := 10) hw (by omega)
  refine aw_aload_n dX6_ofDeck_12 rfl ?_
  refine aw_callVR (As := []) (rest := []) (c_X1_row G hxD) kX1_row w_214 hxD.1 rfl rfl rfl rfl (Nat.le_of_ble_eq_true rfl) dX6_ofDeck_13 ⟨Nat.le_of_ble_eq_true rfl, Nat.le_of_ble_eq_true rfl⟩ ⟨Nat.le_of_ble_eq_true rfl, Nat.le_of_ble_eq_true rfl⟩ ?_
  have hxR := hxD.2.1
  obtain ⟨u_1f, u_1g, u_11, u_12, u_13, u_1l, u_1v⟩ := hxR
  refine aw_astore (L' := [(4, .ref (q + 12 + 45 * i + 1)), (3, .ref (q + 12 + 45 * i)), (0, .ref (q)), (1, .int (nI (i))), (2, .int (nI (u)))]) dX6_ofDeck_16 (by decide) rfl ?_
  refine aw_iload_n dX6_ofDeck_18 rfl ?_
  have hr16 := runs_le (l := l) (n := l.length)
  rcases (show u = 0 ∨ u = 1 ∨ u = 2 ∨ u = 3 ∨ u = 4 ∨ u = 5 ∨ u = 6 ∨ u = 7 ∨ u = 8 ∨ u = 9 ∨ u = 10 by omega) with rfl | rfl | rfl | rfl | rfl | rfl | rfl | rfl | rfl | rfl | rfl
  · skip
    refine aw_tableIn (off := 53) (tgt := 72) dX6_ofDeck_19 (by decide) (by decide) (by decide) (by decide) ?_
    refine aw_aload dX6_ofDeck_72 rfl ?_
    refine aw_callVR (As := []) (rest := []) (c_X3_size G hxD.2.1) kX3_size w_218 u_11 rfl rfl rfl rfl (Nat.le_of_ble_eq_true rfl) dX6_ofDeck_74 ⟨Nat.le_of_ble_eq_true rfl, Nat.le_of_ble_eq_true rfl⟩ ⟨Nat.le_of_ble_eq_true rfl, Nat.le_of_ble_eq_true rfl⟩ ?_
    have hs : sOfDeck σ (nI i) (nI 0) = (.inl (some (.int (nI (l.length)))), σ) := by unfold sOfDeck; rw [if_pos hx, hxI, if_pos hw, nI_nat (by omega)]; rfl
    exact aw_ireturn dX6_ofDeck_77 rfl (hPo_of hs (Nat.le_refl _) aOff.rf hH) (Nat.le_of_ble_eq_true rfl) (Nat.le_of_ble_eq_true rfl)
  · skip
    refine aw_tableIn (off := 59) (tgt := 78) dX6_ofDeck_19 (by decide) (by decide) (by decide) (by decide) ?_
    refine aw_aload dX6_ofDeck_78 rfl ?_
    refine aw_callSR (As := [.ref (q + 12 + 45 * i + 1)]) (rest := []) (c_X0_count G hxD.2.1 hxc hxn.2) kX0_count w_270 rfl rfl (Nat.le_of_ble_eq_true rfl) dX6_ofDeck_80 ⟨Nat.le_of_ble_eq_true rfl, Nat.le_of_ble_eq_true rfl⟩ ⟨Nat.le_of_ble_eq_true rfl, Nat.le_of_ble_eq_true rfl⟩ ?_
    have hs : sOfDeck σ (nI i) (nI 1) = (.inl (some (.int (nI (cyc l l.length)))), σ) := by unfold sOfDeck; rw [if_pos hx, hxI, if_pos hw, nI_nat (by omega)]; rfl
    exact aw_ireturn dX6_ofDeck_83 rfl (hPo_of hs (Nat.le_refl _) aOff.rf hH) (Nat.le_of_ble_eq_true rfl) (Nat.le_of_ble_eq_true rfl)
  · skip
    refine aw_tableIn (off := 65) (tgt := 84) dX6_ofDeck_19 (by decide) (by decide) (by decide) (by decide) ?_
    refine aw_aload dX6_ofDeck_84 rfl ?_
    refine aw_callSR (As := [.ref (q + 12 + 45 * i + 1)]) (rest := []) (c_X0_fixed G hxD.2.1 hxc hxn.2) kX0_fixed w_284 rfl rfl (Nat.le_of_ble_eq_true rfl) dX6_ofDeck_86 ⟨Nat.le_of_ble_eq_true rfl, Nat.le_of_ble_eq_true rfl⟩ ⟨Nat.le_of_ble_eq_true rfl, Nat.le_of_ble_eq_true rfl⟩ ?_
    have hs : sOfDeck σ (nI i) (nI 2) = (.inl (some (.int (nI (fixs l l.length)))), σ) := by unfold sOfDeck; rw [if_pos hx, hxI, if_pos hw, nI_nat (by omega)]; rfl
    exact aw_ireturn dX6_ofDeck_89 rfl (hPo_of hs (Nat.le_refl _) aOff.rf hH) (Nat.le_of_ble_eq_true rfl) (Nat.le_of_ble_eq_true rfl)
  · skip
    refine aw_tableIn (off := 71) (tgt := 90) dX6_ofDeck_19 (by decide) (by decide) (by decide) (by decide) ?_
    refine aw_aload dX6_ofDeck_90 rfl ?_
    refine aw_callSR (As := [.ref (q + 12 + 45 * i + 1)]) (rest := []) (c_X0_placementPeriod G hxD.2.1 hxc hxn.2) kX0_placementPeriod w_287 rfl rfl (Nat.le_of_ble_eq_true rfl) dX6_ofDeck_92 ⟨Nat.le_of_ble_eq_true rfl, Nat.le_of_ble_eq_true rfl⟩ ⟨Nat.le_of_ble_eq_true rfl, Nat.le_of_ble_eq_true rfl⟩ ?_
    have hs : sOfDeck σ (nI i) (nI 3) = (.inl (some (.int (nI (ppd l l.length l.length)))), σ) := by unfold sOfDeck; rw [if_pos hx, hxI, if_pos hw, nI_nat (by omega)]; rfl
    exact aw_ireturn dX6_ofDeck_95 rfl (hPo_of hs (Nat.le_refl _) aOff.rf hH) (Nat.le_of_ble_eq_true rfl) (Nat.le_of_ble_eq_true rfl)
  · skip
    refine aw_tableIn (off := 77) (tgt := 96) dX6_ofDeck_19 (by decide) (by decide) (by decide) (by decide) ?_
    refine aw_aload dX6_ofDeck_96 rfl ?_
    refine aw_callSR (As := [.ref (q + 12 + 45 * i + 1)]) (rest := []) (c_X2_inversions G hxD.2.1 hxc hxn.2) kX2_inversions w_296 rfl rfl (Nat.le_of_ble_eq_true rfl) dX6_ofDeck_98 ⟨Nat.le_of_ble_eq_true rfl, Nat.le_of_ble_eq_true rfl⟩ ⟨Nat.le_of_ble_eq_true rfl, Nat.le_of_ble_eq_true rfl⟩ ?_
    have hs : sOfDeck σ (nI i) (nI 4) = (.inl (some (.int (nI (invs l l.length)))), σ) := by unfold sOfDeck; rw [if_pos hx, hxI, if_pos hw, nI_nat (by omega)]; rfl
    exact aw_ireturn dX6_ofDeck_101 rfl (hPo_of hs (Nat.le_refl _) aOff.rf hH) (Nat.le_of_ble_eq_true rfl) (Nat.le_of_ble_eq_true rfl)
  · skip
    refine aw_tableIn (off := 83) (tgt := 102) dX6_ofDeck_19 (by decide) (by decide) (by decide) (by decide) ?_
    refine aw_aload dX6_ofDeck_102 rfl ?_
    refine aw_callSR (As := [.ref (q + 12 + 45 * i + 1)]) (rest := []) (c_X2_risingRuns G hxD.2.1 hxc hxn.2 hxa (by omega)) kX2_risingRuns w_300 rfl rfl (Nat.le_of_ble_eq_true rfl) dX6_ofDeck_104 ⟨Nat.le_of_ble_eq_true rfl, Nat.le_of_ble_eq_true rfl⟩ ⟨Nat.le_of_ble_eq_true rfl, Nat.le_of_ble_eq_true rfl⟩ ?_
    have hs : sOfDeck σ (nI i) (nI 5) = (.inl (some (.int (nI (runs l l.length)))), σ) := by unfold sOfDeck; rw [if_pos hx, hxI, if_pos hw, nI_nat (by omega)]; rfl
    exact aw_ireturn dX6_ofDeck_107 rfl (hPo_of hs (Nat.le_refl _) aOff.rf hH) (Nat.le_of_ble_eq_true rfl) (Nat.le_of_ble_eq_true rfl)
  · skip
    refine aw_tableIn (off := 89) (tgt := 108) dX6_ofDeck_19 (by decide) (by decide) (by decide) (by decide) ?_
    refine aw_aload dX6_ofDeck_108 rfl ?_
    refine aw_callSR (As := [.ref (q + 12 + 45 * i + 1)]) (rest := []) (c_X2_risingRuns G hxD.2.1 hxc hxn.2 hxa (by omega)) kX2_risingRuns w_300 rfl rfl (Nat.le_of_ble_eq_true rfl) dX6_ofDeck_110 ⟨Nat.le_of_ble_eq_true rfl, Nat.le_of_ble_eq_true rfl⟩ ⟨Nat.le_of_ble_eq_true rfl, Nat.le_of_ble_eq_true rfl⟩ ?_
    refine aw_callSR (As := [.int (nI (runs l l.length))]) (rest := []) (c_X2_rifflesNeeded G (t := runs l l.length) (by omega)) kX2_rifflesNeeded w_308 rfl rfl (Nat.le_of_ble_eq_true rfl) dX6_ofDeck_113 ⟨Nat.le_of_ble_eq_true rfl, Nat.le_of_ble_eq_true rfl⟩ ⟨Nat.le_of_ble_eq_true rfl, Nat.le_of_ble_eq_true rfl⟩ ?_
    have hs : sOfDeck σ (nI i) (nI 6) = (.inl (some (.int (nI (ndr (runs l l.length))))), σ) := by unfold sOfDeck; rw [if_pos hx, hxI, if_pos hw, nI_nat (by omega)]; rfl
    exact aw_ireturn dX6_ofDeck_116 rfl (hPo_of hs (Nat.le_refl _) aOff.rf hH) (Nat.le_of_ble_eq_true rfl) (Nat.le_of_ble_eq_true rfl)
  · skip
    refine aw_tableIn (off := 98) (tgt := 117) dX6_ofDeck_19 (by decide) (by decide) (by decide) (by decide) ?_
    refine aw_aload dX6_ofDeck_117 rfl ?_
    refine aw_callSR (As := [.ref (q + 12 + 45 * i + 1)]) (rest := []) (c_X2_facesUp G hxD.2.1 hxc hxn.2) kX2_facesUp w_226 rfl rfl (Nat.le_of_ble_eq_true rfl) dX6_ofDeck_119 ⟨Nat.le_of_ble_eq_true rfl, Nat.le_of_ble_eq_true rfl⟩ ⟨Nat.le_of_ble_eq_true rfl, Nat.le_of_ble_eq_true rfl⟩ ?_
    have hs : sOfDeck σ (nI i) (nI 7) = (.inl (some (.int (nI (ups l l.length)))), σ) := by unfold sOfDeck; rw [if_pos hx, hxI, if_pos hw, nI_nat (by omega)]; rfl
    exact aw_ireturn dX6_ofDeck_122 rfl (hPo_of hs (Nat.le_refl _) aOff.rf hH) (Nat.le_of_ble_eq_true rfl) (Nat.le_of_ble_eq_true rfl)
  · skip
    refine aw_tableIn (off := 104) (tgt := 123) dX6_ofDeck_19 (by decide) (by decide) (by decide) (by decide) ?_
    refine aw_aload_n dX6_ofDeck_123 rfl ?_
    refine aw_callVR (As := []) (rest := []) (c_X1_shuffleCount G hxD) kX1_shuffleCount w_206 hxD.1 rfl rfl rfl rfl (Nat.le_of_ble_eq_true rfl) dX6_ofDeck_124 ⟨Nat.le_of_ble_eq_true rfl, Nat.le_of_ble_eq_true rfl⟩ ⟨Nat.le_of_ble_eq_true rfl, Nat.le_of_ble_eq_true rfl⟩ ?_
    have hs : sOfDeck σ (nI i) (nI 8) = (.inl (some (.int (nI (sc)))), σ) := by unfold sOfDeck; rw [if_pos hx, hxI, if_pos hw, nI_nat (by omega)]; rfl
    exact aw_ireturn dX6_ofDeck_127 rfl (hPo_of hs (Nat.le_refl _) aOff.rf hH) (Nat.le_of_ble_eq_true rfl) (Nat.le_of_ble_eq_true rfl)
  · skip
    refine aw_tableIn (off := 109) (tgt := 128) dX6_ofDeck_19 (by decide) (by decide) (by decide) (by decide) ?_
    refine aw_aload dX6_ofDeck_128 rfl ?_
    refine aw_callSR (As := [.ref (q + 12 + 45 * i + 1)]) (rest := []) (c_X0_longest G hxD.2.1 hxc hxn.2) kX0_longest w_311 rfl rfl (Nat.le_of_ble_eq_true rfl) dX6_ofDeck_130 ⟨Nat.le_of_ble_eq_true rfl, Nat.le_of_ble_eq_true rfl⟩ ⟨Nat.le_of_ble_eq_true rfl, Nat.le_of_ble_eq_true rfl⟩ ?_
    have hs : sOfDeck σ (nI i) (nI 9) = (.inl (some (.int (nI (lgs l l.length l.length)))), σ) := by unfold sOfDeck; rw [if_pos hx, hxI, if_pos hw, nI_nat (by omega)]; rfl
    exact aw_ireturn dX6_ofDeck_133 rfl (hPo_of hs (Nat.le_refl _) aOff.rf hH) (Nat.le_of_ble_eq_true rfl) (Nat.le_of_ble_eq_true rfl)
  · skip
    refine aw_tableOut (tgt := 134) dX6_ofDeck_19 (by decide) (by decide) ?_
    refine aw_aload dX6_ofDeck_134 rfl ?_
    refine aw_callSR (As := [.ref (q + 12 + 45 * i + 1)]) (rest := []) (c_X2_longestRise G hxD.2.1 hxc hxn.2) kX2_longestRise w_317 rfl rfl (Nat.le_of_ble_eq_true rfl) dX6_ofDeck_136 ⟨Nat.le_of_ble_eq_true rfl, Nat.le_of_ble_eq_true rfl⟩ ⟨Nat.le_of_ble_eq_true rfl, Nat.le_of_ble_eq_true rfl⟩ ?_
    have hs : sOfDeck σ (nI i) (nI 10) = (.inl (some (.int (nI (riseL l l.length)))), σ) := by unfold sOfDeck; rw [if_pos hx, hxI, if_pos hw, nI_nat (by omega)]; rfl
    exact aw_ireturn dX6_ofDeck_139 rfl (hPo_of hs (Nat.le_refl _) aOff.rf hH) (Nat.le_of_ble_eq_true rfl) (Nat.le_of_ble_eq_true rfl)
set_option maxHeartbeats 4000000 in
set_option maxRecDepth 20000 in
/-- keeps -/
theorem p_X6_keeps (G : aG) {h : aH} {nx q c : Nat} {σ : aSg} (hH : HallAt h q σ) (hσ : sgOk c σ) (hc9 : c ≤ 512) (x w : Int32) : aMet G mX6_keeps 12 1 6 [.ref (q), .int (x), .int (w)] h nx (hPo h q nx (sKeeps σ x w)) := by
  have h4 := hσ.1
  have h5 := hσ.2.1
  refine aMet_of rfl (Nat.le_of_ble_eq_true rfl) ?_
  show aw G mX6_keeps [] (aRoom 12 1 6) (aEnd G (hPo h q nx (sKeeps σ x w)) 1 6) 0 0 h nx 0 [(0, .ref (q)), (1, .int (x)), (2, .int (w))] []
  have hHc := hH
  obtain ⟨e1, e2, e3, ⟨z1, e4⟩, ⟨z2, e5⟩, ⟨z3, e6⟩, e7, e8⟩ := hHc
  refine aw_aload_n dX6_keeps_0 rfl ?_
  refine aw_iload_n dX6_keeps_1 rfl ?_
  by_cases hx : inD σ x = true
  rotate_left
  · skip
    have hs : sKeeps σ x w = (.inr xIOB, σ) := by unfold sKeeps; rw [if_neg hx]
    exact aw_callVT (As := [.int (x)]) (rest := []) (t_X6_needDeck G hH x h4 (bf hx)) kX6_needDeck w_250 e1 rfl rfl rfl rfl (Nat.le_of_ble_eq_true rfl) dX6_keeps_2 ⟨Nat.le_of_ble_eq_true rfl, Nat.le_of_ble_eq_true rfl⟩ ⟨Nat.le_of_ble_eq_true rfl, Nat.le_of_ble_eq_true rfl⟩ (Nat.le_of_ble_eq_true rfl) (Nat.le_of_ble_eq_true rfl) (fun n1 hn1 => hPo_of hs hn1 aOff.rf hH)
  obtain ⟨i, hxi, rfl⟩ := in_of hx (by omega)
  have hxd := hσ.2.2.2.1 i hxi
  have hxD := e7 i (by omega)
  obtain ⟨⟨l, ps, sc⟩, hxq⟩ : ∃ d, d = σ.1.getD i dk0 := ⟨_, rfl⟩
  rw [← hxq] at hxd hxD
  have hxI : dkI σ (nI i) = (l, ps, sc) := (dkI_i (by omega)).trans hxq.symm
  simp only [dkOk] at hxd
  obtain ⟨hxn, hxc, hxa, hxp, hxp4, hxs⟩ := hxd
  have hxD : DeckAt h (q + 12 + 45 * i) l ps sc := hxD
  refine aw_callVR (As := [.int (nI (i))]) (rest := []) (c_X6_needDeck G hH hxi h4) kX6_needDeck w_250 e1 rfl rfl rfl rfl (Nat.le_of_ble_eq_true rfl) dX6_keeps_2 ⟨Nat.le_of_ble_eq_true rfl, Nat.le_of_ble_eq_true rfl⟩ ⟨Nat.le_of_ble_eq_true rfl, Nat.le_of_ble_eq_true rfl⟩ ?_
  refine aw_callVR (As := []) (rest := []) (c_X1_row G hxD) kX1_row w_214 hxD.1 rfl rfl rfl rfl (Nat.le_of_ble_eq_true rfl) dX6_keeps_5 ⟨Nat.le_of_ble_eq_true rfl, Nat.le_of_ble_eq_true rfl⟩ ⟨Nat.le_of_ble_eq_true rfl, Nat.le_of_ble_eq_true rfl⟩ ?_
  have hxR := hxD.2.1
  obtain ⟨u_1f, u_1g, u_11, u_12, u_13, u_1l, u_1v⟩ := hxR
  refine aw_astore_n (L' := [(3, .ref (q + 12 + 45 * i + 1)), (0, .ref (q)), (1, .int (nI (i))), (2, .int (w))]) dX6_keeps_8 (by decide) rfl ?_
  refine aw_iload_n dX6_keeps_9 rfl ?_
  refine aw_ic dX6_keeps_10 ic_5 ?_
  by_cases hw : wIn w 0 5 = true
  rotate_left
  · skip
    have hs : sKeeps σ (nI i) w = (.inr xIAE, σ) := by unfold sKeeps; rw [if_pos hx, hxI]; exact if_neg hw
    exact aw_callST (As := [.int (w), .int (nI (5))]) (rest := []) (t_X6_needWhat G (b := 5) (by omega) (bf hw)) kX6_needWhat w_128 rfl rfl (Nat.le_of_ble_eq_true rfl) dX6_keeps_11 ⟨Nat.le_of_ble_eq_true rfl, Nat.le_of_ble_eq_true rfl⟩ ⟨Nat.le_of_ble_eq_true rfl, Nat.le_of_ble_eq_true rfl⟩ (Nat.le_of_ble_eq_true rfl) (Nat.le_of_ble_eq_true rfl) (fun n1 hn1 => hPo_of hs hn1 aOff.rf hH)
  refine aw_callSR (As := [.int (w), .int (nI (5))]) (rest := []) (c_X6_needWhat G (b := 5) (by omega) hw) kX6_needWhat w_128 rfl rfl (Nat.le_of_ble_eq_true rfl) dX6_keeps_11 ⟨Nat.le_of_ble_eq_true rfl, Nat.le_of_ble_eq_true rfl⟩ ⟨Nat.le_of_ble_eq_true rfl, Nat.le_of_ble_eq_true rfl⟩ ?_
  obtain ⟨u, -, hwi, rfl⟩ := wIn_nat (a := 0) (b := 5) hw (by omega)
  refine aw_iload_n dX6_keeps_14 rfl ?_
  rcases (show u = 0 ∨ u = 1 ∨ u = 2 ∨ u = 3 ∨ u = 4 ∨ u = 5 by omega) with rfl | rfl | rfl | rfl | rfl | rfl
  · skip
    refine aw_tableIn (off := 33) (tgt := 48) dX6_keeps_15 (by decide) (by decide) (by decide) (by decide) ?_
    refine aw_aload_n dX6_keeps_48 rfl ?_
    refine aw_ic dX6_keeps_49 ic_2 ?_
    refine aw_callSR (As := [.ref (q + 12 + 45 * i + 1), .int (nI (2))]) (rest := []) (c_X2_keepsGroups G hxD.2.1 hxc hxn.2 (q := 2) (by decide) (by decide)) kX2_keepsGroups w_330 rfl rfl (Nat.le_of_ble_eq_true rfl) dX6_keeps_50 ⟨Nat.le_of_ble_eq_true rfl, Nat.le_of_ble_eq_true rfl⟩ ⟨Nat.le_of_ble_eq_true rfl, Nat.le_of_ble_eq_true rfl⟩ ?_
    have hs : sKeeps σ (nI i) (nI 0) = (.inl (some (.int (bI (grps l l.length 2)))), σ) := by unfold sKeeps; rw [if_pos hx, hxI, if_pos hw, nI_nat (by omega)]; rfl
    exact aw_zreturn dX6_keeps_53 rfl (bI_nar (grps l l.length 2)) (hPo_of hs (Nat.le_refl _) aOff.rf hH) (Nat.le_of_ble_eq_true rfl) (Nat.le_of_ble_eq_true rfl)
  · skip
    refine aw_tableIn (off := 39) (tgt := 54) dX6_keeps_15 (by decide) (by decide) (by decide) (by decide) ?_
    refine aw_aload_n dX6_keeps_54 rfl ?_
    refine aw_ic dX6_keeps_55 ic_4 ?_
    refine aw_callSR (As := [.ref (q + 12 + 45 * i + 1), .int (nI (4))]) (rest := []) (c_X2_keepsGroups G hxD.2.1 hxc hxn.2 (q := 4) (by decide) (by decide)) kX2_keepsGroups w_330 rfl rfl (Nat.le_of_ble_eq_true rfl) dX6_keeps_56 ⟨Nat.le_of_ble_eq_true rfl, Nat.le_of_ble_eq_true rfl⟩ ⟨Nat.le_of_ble_eq_true rfl, Nat.le_of_ble_eq_true rfl⟩ ?_
    have hs : sKeeps σ (nI i) (nI 1) = (.inl (some (.int (bI (grps l l.length 4)))), σ) := by unfold sKeeps; rw [if_pos hx, hxI, if_pos hw, nI_nat (by omega)]; rfl
    exact aw_zreturn dX6_keeps_59 rfl (bI_nar (grps l l.length 4)) (hPo_of hs (Nat.le_refl _) aOff.rf hH) (Nat.le_of_ble_eq_true rfl) (Nat.le_of_ble_eq_true rfl)
  · skip
    refine aw_tableIn (off := 45) (tgt := 60) dX6_keeps_15 (by decide) (by decide) (by decide) (by decide) ?_
    refine aw_aload_n dX6_keeps_60 rfl ?_
    refine aw_callSR (As := [.ref (q + 12 + 45 * i + 1)]) (rest := []) (c_X2_isWhole G hxD.2.1 hxc hxn.2 (by omega)) kX2_isWhole w_333 rfl rfl (Nat.le_of_ble_eq_true rfl) dX6_keeps_61 ⟨Nat.le_of_ble_eq_true rfl, Nat.le_of_ble_eq_true rfl⟩ ⟨Nat.le_of_ble_eq_true rfl, Nat.le_of_ble_eq_true rfl⟩ ?_
    have hs : sKeeps σ (nI i) (nI 2) = (.inl (some (.int (bI (whol l l.length)))), σ) := by unfold sKeeps; rw [if_pos hx, hxI, if_pos hw, nI_nat (by omega)]; rfl
    exact aw_zreturn dX6_keeps_64 rfl (bI_nar (whol l l.length)) (hPo_of hs (Nat.le_refl _) aOff.rf hH) (Nat.le_of_ble_eq_true rfl) (Nat.le_of_ble_eq_true rfl)
  · skip
    refine aw_tableIn (off := 50) (tgt := 65) dX6_keeps_15 (by decide) (by decide) (by decide) (by decide) ?_
    refine aw_aload_n dX6_keeps_65 rfl ?_
    refine aw_callSR (As := [.ref (q + 12 + 45 * i + 1)]) (rest := []) (c_X2_inversions G hxD.2.1 hxc hxn.2) kX2_inversions w_296 rfl rfl (Nat.le_of_ble_eq_true rfl) dX6_keeps_66 ⟨Nat.le_of_ble_eq_true rfl, Nat.le_of_ble_eq_true rfl⟩ ⟨Nat.le_of_ble_eq_true rfl, Nat.le_of_ble_eq_true rfl⟩ ?_
    have hiv := invs_lt hxc hxn.2
    refine aw_ic dX6_keeps_69 ic_2 ?_
    refine aw_iremN (by omega) (by omega) (by omega) dX6_keeps_70 ?_
    have hm2 := Nat.mod_lt (invs l l.length) (show 0 < 2 by decide)
    refine aw_if_neN (tgt := 78) (by omega) dX6_keeps_71 (by decide) (fun c5 => ?_) (fun c5 => ?_)
    · skip
      refine aw_ic dX6_keeps_78 ic_0 ?_
      have hs : sKeeps σ (nI i) (nI 3) = (.inl (some (.int (bI false))), σ) := by unfold sKeeps; rw [if_pos hx, hxI, if_pos hw, nI_nat (by omega)]; show rI (bI (decide (invs l l.length % 2 = 0))) σ = _; rw [decide_eq_false (show ¬ invs l l.length % 2 = 0 by omega)]
      exact aw_zreturn dX6_keeps_79 rfl (bI_nar false) (hPo_of hs (Nat.le_refl _) aOff.rf hH) (Nat.le_of_ble_eq_true rfl) (Nat.le_of_ble_eq_true rfl)
    · skip
      refine aw_ic dX6_keeps_74 ic_1 ?_
      refine aw_goto (tgt := 79) dX6_keeps_75 (by decide) ?_
      have hs : sKeeps σ (nI i) (nI 3) = (.inl (some (.int (bI true))), σ) := by unfold sKeeps; rw [if_pos hx, hxI, if_pos hw, nI_nat (by omega)]; show rI (bI (decide (invs l l.length % 2 = 0))) σ = _; rw [decide_eq_true (show invs l l.length % 2 = 0 by omega)]
      exact aw_zreturn dX6_keeps_79 rfl (bI_nar true) (hPo_of hs (Nat.le_refl _) aOff.rf hH) (Nat.le_of_ble_eq_true rfl) (Nat.le_of_ble_eq_true rfl)
  · skip
    refine aw_tableIn (off := 65) (tgt := 80) dX6_keeps_15 (by decide) (by decide) (by decide) (by decide) ?_
    refine aw_aload_n dX6_keeps_80 rfl ?_
    refine aw_callSR (As := [.ref (q + 12 + 45 * i + 1)]) (rest := []) (c_X0_fixed G hxD.2.1 hxc hxn.2) kX0_fixed w_284 rfl rfl (Nat.le_of_ble_eq_true rfl) dX6_keeps_81 ⟨Nat.le_of_ble_eq_true rfl, Nat.le_of_ble_eq_true rfl⟩ ⟨Nat.le_of_ble_eq_true rfl, Nat.le_of_ble_eq_true rfl⟩ ?_
    have hfx := fixs_le (l := l) (n := l.length)
    refine aw_aload_n dX6_keeps_84 rfl ?_
    refine aw_callVR (As := []) (rest := [.int (nI (fixs l l.length))]) (c_X3_size G hxD.2.1) kX3_size w_218 u_11 rfl rfl rfl rfl (Nat.le_of_ble_eq_true rfl) dX6_keeps_85 ⟨Nat.le_of_ble_eq_true rfl, Nat.le_of_ble_eq_true rfl⟩ ⟨Nat.le_of_ble_eq_true rfl, Nat.le_of_ble_eq_true rfl⟩ ?_
    refine aw_icmp_neN (tgt := 95) (by omega) (by omega) dX6_keeps_88 (by decide) (fun c5 => ?_) (fun c5 => ?_)
    · skip
      refine aw_ic dX6_keeps_95 ic_0 ?_
      have hs : sKeeps σ (nI i) (nI 4) = (.inl (some (.int (bI false))), σ) := by unfold sKeeps; rw [if_pos hx, hxI, if_pos hw, nI_nat (by omega)]; show rI (bI (decide (fixs l l.length = l.length))) σ = _; rw [decide_eq_false (show ¬ fixs l l.length = l.length by omega)]
      exact aw_zreturn dX6_keeps_96 rfl (bI_nar false) (hPo_of hs (Nat.le_refl _) aOff.rf hH) (Nat.le_of_ble_eq_true rfl) (Nat.le_of_ble_eq_true rfl)
    · skip
      refine aw_ic dX6_keeps_91 ic_1 ?_
      refine aw_goto (tgt := 96) dX6_keeps_92 (by decide) ?_
      have hs : sKeeps σ (nI i) (nI 4) = (.inl (some (.int (bI true))), σ) := by unfold sKeeps; rw [if_pos hx, hxI, if_pos hw, nI_nat (by omega)]; show rI (bI (decide (fixs l l.length = l.length))) σ = _; rw [decide_eq_true (show fixs l l.length = l.length by omega)]
      exact aw_zreturn dX6_keeps_96 rfl (bI_nar true) (hPo_of hs (Nat.le_refl _) aOff.rf hH) (Nat.le_of_ble_eq_true rfl) (Nat.le_of_ble_eq_true rfl)
  · skip
    refine aw_tableOut (tgt := 97) dX6_keeps_15 (by decide) (by decide) ?_
    refine aw_aload_n dX6_keeps_97 rfl ?_
    refine aw_callSR (As := [.ref (q + 12 + 45 * i + 1)]) (rest := []) (c_X2_isMirrored G hxD.2.1 hxc hxn.2 (by omega)) kX2_isMirrored w_338 rfl rfl (Nat.le_of_ble_eq_true rfl) dX6_keeps_98 ⟨Nat.le_of_ble_eq_true rfl, Nat.le_of_ble_eq_true rfl⟩ ⟨Nat.le_of_ble_eq_true rfl, Nat.le_of_ble_eq_true rfl⟩ ?_
    have hs : sKeeps σ (nI i) (nI 5) = (.inl (some (.int (bI (mirr l l.length)))), σ) := by unfold sKeeps; rw [if_pos hx, hxI, if_pos hw, nI_nat (by omega)]; rfl
    exact aw_zreturn dX6_keeps_101 rfl (bI_nar (mirr l l.length)) (hPo_of hs (Nat.le_refl _) aOff.rf hH) (Nat.le_of_ble_eq_true rfl) (Nat.le_of_ble_eq_true rfl)
