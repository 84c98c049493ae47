set_option maxHeartbeats 4000000 in
set_option maxRecDepth 20000 in
/-- needDeck(i) -/
theorem c_X6_needDeck (G : aG) {h : aH} {nx q : Nat} {σ : aSg} (hH : HallAt h q σ) {i : Nat} (hi : i < σ.1.length) (h4 : σ.1.length ≤ 4) : aMet G mX6_needDeck 0 0 0 [.ref (q), .int (nI (i))] h nx (pR (some (.ref (q + 12 + 45 * i))) h nx) := by
  refine aMet_of rfl (Nat.le_of_ble_eq_true rfl) ?_
  show aw G mX6_needDeck [] (aRoom 0 0 0) (aEnd G (pR (some (.ref (q + 12 + 45 * i))) h nx) 0 0) 0 0 h nx 0 [(0, .ref (q)), (1, .int (nI (i)))] []
  have hHc := hH
  obtain ⟨e1, e2, e3, ⟨z1, e4⟩, ⟨z2, e5⟩, ⟨z3, e6⟩, e7, e8⟩ := hHc
  refine aw_iload_n dX6_needDeck_0 rfl ?_
  refine aw_if_ltN (tgt := 21) (by omega) dX6_needDeck_1 (by decide) ?_
  refine aw_iload_n dX6_needDeck_4 rfl ?_
  refine aw_aload_n dX6_needDeck_5 rfl ?_
  refine aw_get 2 e1 rfl rfl (by decide) w_96 rfl dX6_needDeck_6 ?_
  refine aw_icmp_geN (tgt := 21) (by omega) (by omega) dX6_needDeck_9 (by decide) (fun c2 => absurd c2 (by omega)) (fun c2 => ?_)
  refine aw_iload_n dX6_needDeck_12 rfl ?_
  refine aw_aload_n dX6_needDeck_13 rfl ?_
  refine aw_get 0 e1 rfl rfl (by decide) w_94 rfl dX6_needDeck_14 ?_
  refine aw_lenK e2 dX6_needDeck_17 ?_
  refine aw_icmp_ltN (tgt := 32) (by omega) (by omega) dX6_needDeck_18 (by decide) (fun c3 => ?_) (fun c3 => absurd c3 (by omega))
  refine aw_aload_n dX6_needDeck_32 rfl ?_
  refine aw_get 0 e1 rfl rfl (by decide) w_94 rfl dX6_needDeck_33 ?_
  refine aw_iload_n dX6_needDeck_36 rfl ?_
  refine aw_aaloadD e2 (by omega) (by omega) dX6_needDeck_37 ?_
  refine aw_to ?_ rfl (show ([va_rf ((fDk q) i)] : List Value) = ([.ref (q + 12 + 45 * i)] : List Value) from by rw [fDk_at (by omega)]) rfl
  exact aw_areturn dX6_needDeck_38 rfl (Or.inl ⟨_, rfl⟩) (Or.inr ⟨_, rfl⟩) ⟨rfl, rfl, rfl⟩ (Nat.le_of_ble_eq_true rfl) (Nat.le_of_ble_eq_true rfl)
set_option maxHeartbeats 4000000 in
set_option maxRecDepth 20000 in
/-- needDeck(x), where it throws -/
theorem t_X6_needDeck (G : aG) {h : aH} {nx q : Nat} {σ : aSg} (hH : HallAt h q σ) (x : Int32) (h4 : σ.1.length ≤ 4) (hx : inD σ x = false) : aMet G mX6_needDeck 6 1 6 [.ref (q), .int (x)] h nx (pT xIOB h nx) := by
  have hx1 := of_decide_eq_false hx
  have e9 : (nI σ.1.length).toInt = (σ.1.length : Int) := nI_toInt (by omega)
  have e0 : (0 : Int32).toInt = 0 := (by decide)
  refine aMet_of rfl (Nat.le_of_ble_eq_true rfl) ?_
  show aw G mX6_needDeck [] (aRoom 6 1 6) (aEnd G (pT xIOB h nx) 1 6) 0 0 h nx 0 [(0, .ref (q)), (1, .int (x))] []
  have hHc := hH
  obtain ⟨e1, e2, e3, ⟨z1, e4⟩, ⟨z2, e5⟩, ⟨z3, e6⟩, e7, e8⟩ := hHc
  refine aw_iload_n dX6_needDeck_0 rfl ?_
  refine aw_if_lt (tgt := 21) dX6_needDeck_1 (by decide) (fun c1 => ?_) (fun c1 => ?_)
  · skip
    exact aw_throwW (E := xIOB) (text := "no such deck") (names := xNs) (by decide +kernel) xNs_fit w_254 w_19 (by decide +kernel) at_IOB dX6_needDeck_21 dX6_needDeck_24 dX6_needDeck_25 dX6_needDeck_28 dX6_needDeck_31 (fun x hx => absurd hx List.not_mem_nil) (by decide) (by decide) (Nat.le_of_ble_eq_true rfl) (Nat.le_of_ble_eq_true rfl) (fun n1 hn1 => ⟨rfl, rfl, hn1⟩) (Nat.le_of_ble_eq_true rfl) (Nat.le_of_ble_eq_true rfl)
  · skip
    refine aw_iload_n dX6_needDeck_4 rfl ?_
    refine aw_aload_n dX6_needDeck_5 rfl ?_
    refine aw_get 2 e1 rfl rfl (by decide) w_96 rfl dX6_needDeck_6 ?_
    refine aw_icmp_ge (tgt := 21) dX6_needDeck_9 (by decide) (fun c2 => ?_) (fun c2 => ?_)
    · skip
      exact aw_throwW (E := xIOB) (text := "no such deck") (names := xNs) (by decide +kernel) xNs_fit w_254 w_19 (by decide +kernel) at_IOB dX6_needDeck_21 dX6_needDeck_24 dX6_needDeck_25 dX6_needDeck_28 dX6_needDeck_31 (fun x hx => absurd hx List.not_mem_nil) (by decide) (by decide) (Nat.le_of_ble_eq_true rfl) (Nat.le_of_ble_eq_true rfl) (fun n1 hn1 => ⟨rfl, rfl, hn1⟩) (Nat.le_of_ble_eq_true rfl) (Nat.le_of_ble_eq_true rfl)
    · skip
      exact absurd (⟨by rw [Int32.lt_iff_toInt_lt, e0] at c1; omega, by rw [Int32.le_iff_toInt_le, e9] at c2; omega⟩) hx1
set_option maxHeartbeats 4000000 in
set_option maxRecDepth 20000 in
/-- needSequence(i) -/
theorem c_X6_needSequence (G : aG) {h : aH} {nx q : Nat} {σ : aSg} (hH : HallAt h q σ) {i : Nat} (hi : i < σ.2.1.length) (h4 : σ.2.1.length ≤ 4) : aMet G mX6_needSequence 0 0 0 [.ref (q), .int (nI (i))] h nx (pR (some (.ref (q + 192 + 3 * i))) h nx) := by
  refine aMet_of rfl (Nat.le_of_ble_eq_true rfl) ?_
  show aw G mX6_needSequence [] (aRoom 0 0 0) (aEnd G (pR (some (.ref (q + 192 + 3 * i))) h nx) 0 0) 0 0 h nx 0 [(0, .ref (q)), (1, .int (nI (i)))] []
  have hHc := hH
  obtain ⟨e1, e2, e3, ⟨z1, e4⟩, ⟨z2, e5⟩, ⟨z3, e6⟩, e7, e8⟩ := hHc
  refine aw_iload_n dX6_needSequence_0 rfl ?_
  refine aw_if_ltN (tgt := 21) (by omega) dX6_needSequence_1 (by decide) ?_
  refine aw_iload_n dX6_needSequence_4 rfl ?_
  refine aw_aload_n dX6_needSequence_5 rfl ?_
  refine aw_get 3 e1 rfl rfl (by decide) w_97 rfl dX6_needSequence_6 ?_
  refine aw_icmp_geN (tgt := 21) (by omega) (by omega) dX6_needSequence_9 (by decide) (fun c2 => absurd c2 (by omega)) (fun c2 => ?_)
  refine aw_iload_n dX6_needSequence_12 rfl ?_
  refine aw_aload_n dX6_needSequence_13 rfl ?_
  refine aw_get 1 e1 rfl rfl (by decide) w_95 rfl dX6_needSequence_14 ?_
  refine aw_lenS e3 dX6_needSequence_17 ?_
  refine aw_icmp_ltN (tgt := 32) (by omega) (by omega) dX6_needSequence_18 (by decide) (fun c3 => ?_) (fun c3 => absurd c3 (by omega))
  refine aw_aload_n dX6_needSequence_32 rfl ?_
  refine aw_get 1 e1 rfl rfl (by decide) w_95 rfl dX6_needSequence_33 ?_
  refine aw_iload_n dX6_needSequence_36 rfl ?_
  refine aw_aaloadS e3 (by omega) (by omega) dX6_needSequence_37 ?_
  refine aw_to ?_ rfl (show ([va_rf ((fSq q) i)] : List Value) = ([.ref (q + 192 + 3 * i)] : List Value) from by rw [fSq_at (by omega)]) rfl
  exact aw_areturn dX6_needSequence_38 rfl (Or.inl ⟨_, rfl⟩) (Or.inr ⟨_, rfl⟩) ⟨rfl, rfl, rfl⟩ (Nat.le_of_ble_eq_true rfl) (Nat.le_of_ble_eq_true rfl)
set_option maxHeartbeats 4000000 in
set_option maxRecDepth 20000 in
/-- needSequence(x), where it throws -/
theorem t_X6_needSequence (G : aG) {h : aH} {nx q : Nat} {σ : aSg} (hH : HallAt h q σ) (x : Int32) (h4 : σ.2.1.length ≤ 4) (hx : inS σ x = false) : aMet G mX6_needSequence 6 1 6 [.ref (q), .int (x)] h nx (pT xIOB h nx) := by
  have hx1 := of_decide_eq_false hx
  have e9 : (nI σ.2.1.length).toInt = (σ.2.1.length : Int) := nI_toInt (by omega)
  have e0 : (0 : Int32).toInt = 0 := (by decide)
  refine aMet_of rfl (Nat.le_of_ble_eq_true rfl) ?_
  show aw G mX6_needSequence [] (aRoom 6 1 6) (aEnd G (pT xIOB h nx) 1 6) 0 0 h nx 0 [(0, .ref (q)), (1, .int (x))] []
  have hHc := hH
  obtain ⟨e1, e2, e3, ⟨z1, e4⟩, ⟨z2, e5⟩, ⟨z3, e6⟩, e7, e8⟩ := hHc
  refine aw_iload_n dX6_needSequence_0 rfl ?_
  refine aw_if_lt (tgt := 21) dX6_needSequence_1 (by decide) (fun c1 => ?_) (fun c1 => ?_)
  · skip
    exact aw_throwW (E := xIOB) (text := "no such sequence") (names := xNs) (by decide +kernel) xNs_fit w_254 w_19 (by decide +kernel) at_IOB dX6_needSequence_21 dX6_needSequence_24 dX6_needSequence_25 dX6_needSequence_28 dX6_needSequence_31 (fun x hx => absurd hx List.not_mem_nil) (by decide) (by decide) (Nat.le_of_ble_eq_true rfl) (Nat.le_of_ble_eq_true rfl) (fun n1 hn1 => ⟨rfl, rfl, hn1⟩) (Nat.le_of_ble_eq_true rfl) (Nat.le_of_ble_eq_true rfl)
  · skip
    refine aw_iload_n dX6_needSequence_4 rfl ?_
    refine aw_aload_n dX6_needSequence_5 rfl ?_
    refine aw_get 3 e1 rfl rfl (by decide) w_97 rfl dX6_needSequence_6 ?_
    refine aw_icmp_ge (tgt := 21) dX6_needSequence_9 (by decide) (fun c2 => ?_) (fun c2 => ?_)
    · skip
      exact aw_throwW (E := xIOB) (text := "no such sequence") (names := xNs) (by decide +kernel) xNs_fit w_254 w_19 (by decide +kernel) at_IOB dX6_needSequence_21 dX6_needSequence_24 dX6_needSequence_25 dX6_needSequence_28 dX6_needSequence_31 (fun x hx => absurd hx List.not_mem_nil) (by decide) (by decide) (Nat.le_of_ble_eq_true rfl) (Nat.le_of_ble_eq_true rfl) (fun n1 hn1 => ⟨rfl, rfl, hn1⟩) (Nat.le_of_ble_eq_true rfl) (Nat.le_of_ble_eq_true rfl)
    · skip
      exact absurd (⟨by rw [Int32.lt_iff_toInt_lt, e0] at c1; omega, by rw [Int32.le_iff_toInt_le, e9] at c2; omega⟩) hx1
set_option maxHeartbeats 4000000 in
set_option maxRecDepth 20000 in
/-- needPosition(row, x), within -/
theorem c_X6_needPosition (G : aG) {h : aH} {nx r : Nat} {l : List Nat} (hR : RowAt h r l) {x : Int32} (hx : inP l x = true) : aMet G mX6_needPosition 1 0 0 [.ref (r), .int (x)] h nx (pR none h nx) := by
  have hl := hR
  obtain ⟨f, g, f1, f2, f3, hl, hv⟩ := hl
  have hh := (has_eq (x := x) (k := l.length) (by omega)).trans hx
  refine aMet_of rfl (Nat.le_of_ble_eq_true rfl) ?_
  show aw G mX6_needPosition [] (aRoom 1 0 0) (aEnd G (pR none h nx) 0 0) 0 0 h nx 0 [(0, .ref (r)), (1, .int (x))] []
  refine aw_aload_n dX6_needPosition_0 rfl ?_
  refine aw_iload_n dX6_needPosition_1 rfl ?_
  refine aw_callVR (As := [.int (x)]) (rest := []) (c_X3_has G x hR) kX3_has w_348 f1 rfl rfl rfl rfl (Nat.le_of_ble_eq_true rfl) dX6_needPosition_2 ⟨Nat.le_of_ble_eq_true rfl, Nat.le_of_ble_eq_true rfl⟩ ⟨Nat.le_of_ble_eq_true rfl, Nat.le_of_ble_eq_true rfl⟩ ?_
  refine aw_if_neB (tgt := 19) dX6_needPosition_5 (by decide) (fun c1 => ?_) (fun c1 => absurd c1 (by rw [hh]; decide))
  exact aw_return dX6_needPosition_19 rfl ⟨rfl, rfl, rfl⟩ (Nat.le_of_ble_eq_true rfl) (Nat.le_of_ble_eq_true rfl)
set_option maxHeartbeats 4000000 in
set_option maxRecDepth 20000 in
/-- needPosition(row, x), where it throws -/
theorem t_X6_needPosition (G : aG) {h : aH} {nx r : Nat} {l : List Nat} (hR : RowAt h r l) {x : Int32} (hx : inP l x = false) : aMet G mX6_needPosition 6 1 6 [.ref (r), .int (x)] h nx (pT xIOB h nx) := by
  have hl := hR
  obtain ⟨f, g, f1, f2, f3, hl, hv⟩ := hl
  have hh := (has_eq (x := x) (k := l.length) (by omega)).trans hx
  refine aMet_of rfl (Nat.le_of_ble_eq_true rfl) ?_
  show aw G mX6_needPosition [] (aRoom 6 1 6) (aEnd G (pT xIOB h nx) 1 6) 0 0 h nx 0 [(0, .ref (r)), (1, .int (x))] []
  refine aw_aload_n dX6_needPosition_0 rfl ?_
  refine aw_iload_n dX6_needPosition_1 rfl ?_
  refine aw_callVR (As := [.int (x)]) (rest := []) (c_X3_has G x hR) kX3_has w_348 f1 rfl rfl rfl rfl (Nat.le_of_ble_eq_true rfl) dX6_needPosition_2 ⟨Nat.le_of_ble_eq_true rfl, Nat.le_of_ble_eq_true rfl⟩ ⟨Nat.le_of_ble_eq_true rfl, Nat.le_of_ble_eq_true rfl⟩ ?_
  refine aw_if_neB (tgt := 19) dX6_needPosition_5 (by decide) (fun c1 => absurd c1 (by rw [hh]; decide)) (fun c1 => ?_)
  exact aw_throwW (E := xIOB) (text := "no such position") (names := xNs) (by decide +kernel) xNs_fit w_254 w_19 (by decide +kernel) at_IOB dX6_needPosition_8 dX6_needPosition_11 dX6_needPosition_12 dX6_needPosition_15 dX6_needPosition_18 (fun x hx => absurd hx List.not_mem_nil) (by decide) (by decide) (Nat.le_of_ble_eq_true rfl) (Nat.le_of_ble_eq_true rfl) (fun n1 hn1 => ⟨rfl, rfl, hn1⟩) (Nat.le_of_ble_eq_true rfl) (Nat.le_of_ble_eq_true rfl)
set_option maxHeartbeats 4000000 in
set_option maxRecDepth 20000 in
/-- needOften -/
theorem c_X6_needOften (G : aG) {h : aH} {nx : Nat} {x : Int32} (hx : wIn x 1 1000000 = true) : aMet G mX6_needOften 1 0 0 [.int (x)] h nx (pR none h nx) := by
  refine aMet_of rfl (Nat.le_of_ble_eq_true rfl) ?_
  show aw G mX6_needOften [] (aRoom 1 0 0) (aEnd G (pR none h nx) 0 0) 0 0 h nx 0 [(0, .int (x))] []
  refine aw_iload_n dX6_needOften_0 rfl ?_
  refine aw_ic dX6_needOften_1 ic_1 ?_
  refine aw_ldcw dX6_needOften_2 w_547 ?_
  refine aw_top (show (1000000 : Int32) = nI 1000000 by decide) ?_
  refine aw_callSR (As := [.int (x), .int (nI (1)), .int (nI (1000000))]) (rest := []) (c_X6_isWithin G x (nI 1) (nI 1000000)) kX6_isWithin w_131 rfl rfl (Nat.le_of_ble_eq_true rfl) dX6_needOften_5 ⟨Nat.le_of_ble_eq_true rfl, Nat.le_of_ble_eq_true rfl⟩ ⟨Nat.le_of_ble_eq_true rfl, Nat.le_of_ble_eq_true rfl⟩ ?_
  have hh : decide ((nI 1).toInt ≤ x.toInt ∧ x.toInt ≤ (nI 1000000).toInt) = true := by rw [show (nI 1).toInt = 1 by decide, show (nI 1000000).toInt = 1000000 by first | decide | exact nI_toInt (by omega)]; exact hx
  refine aw_if_neB (tgt := 22) dX6_needOften_8 (by decide) (fun c1 => ?_) (fun c1 => absurd c1 (by rw [hh]; decide))
  exact aw_return dX6_needOften_22 rfl ⟨rfl, rfl, rfl⟩ (Nat.le_of_ble_eq_true rfl) (Nat.le_of_ble_eq_true rfl)
set_option maxHeartbeats 4000000 in
set_option maxRecDepth 20000 in
/-- needOften -/
theorem t_X6_needOften (G : aG) {h : aH} {nx : Nat} {x : Int32} (hx : wIn x 1 1000000 = false) : aMet G mX6_needOften 6 1 6 [.int (x)] h nx (pT xIAE h nx) := by
  refine aMet_of rfl (Nat.le_of_ble_eq_true rfl) ?_
  show aw G mX6_needOften [] (aRoom 6 1 6) (aEnd G (pT xIAE h nx) 1 6) 0 0 h nx 0 [(0, .int (x))] []
  refine aw_iload_n dX6_needOften_0 rfl ?_
  refine aw_ic dX6_needOften_1 ic_1 ?_
  refine aw_ldcw dX6_needOften_2 w_547 ?_
  refine aw_top (show (1000000 : Int32) = nI 1000000 by decide) ?_
  refine aw_callSR (As := [.int (x), .int (nI (1)), .int (nI (1000000))]) (rest := []) (c_X6_isWithin G x (nI 1) (nI 1000000)) kX6_isWithin w_131 rfl rfl (Nat.le_of_ble_eq_true rfl) dX6_needOften_5 ⟨Nat.le_of_ble_eq_true rfl, Nat.le_of_ble_eq_true rfl⟩ ⟨Nat.le_of_ble_eq_true rfl, Nat.le_of_ble_eq_true rfl⟩ ?_
  have hh : decide ((nI 1).toInt ≤ x.toInt ∧ x.toInt ≤ (nI 1000000).toInt) = false := by rw [show (nI 1).toInt = 1 by decide, show (nI 1000000).toInt = 1000000 by first | decide | exact nI_toInt (by omega)]; exact hx
  refine aw_if_neB (tgt := 22) dX6_needOften_8 (by decide) (fun c1 => absurd c1 (by rw [hh]; decide)) (fun c1 => ?_)
  exact aw_throwW (E := xIAE) (text := "often is not 1 to 1000000") (names := xNs) (by decide +kernel) xNs_fit w_134 w_12 (by decide +kernel) at_IAE dX6_needOften_11 dX6_needOften_14 dX6_needOften_15 dX6_needOften_18 dX6_needOften_21 (fun x hx => absurd hx List.not_mem_nil) (by decide) (by decide) (Nat.le_of_ble_eq_true rfl) (Nat.le_of_ble_eq_true rfl) (fun n1 hn1 => ⟨rfl, rfl, hn1⟩) (Nat.le_of_ble_eq_true rfl) (Nat.le_of_ble_eq_true rfl)
set_option maxHeartbeats 4000000 in
set_option maxRecDepth 20000 in
/-- needWhat -/
theorem c_X6_needWhat (G : aG) {h : aH} {nx : Nat} {x : Int32} {b : Nat} (hb : b < 1000) (hx : wIn x 0 b = true) : aMet G mX6_needWhat 1 0 0 [.int (x), .int (nI (b))] h nx (pR none h nx) := by
  refine aMet_of rfl (Nat.le_of_ble_eq_true rfl) ?_
  show aw G mX6_needWhat [] (aRoom 1 0 0) (aEnd G (pR none h nx) 0 0) 0 0 h nx 0 [(0, .int (x)), (1, .int (nI (b)))] []
  refine aw_iload_n dX6_needWhat_0 rfl ?_
  refine aw_ic dX6_needWhat_1 ic_0 ?_
  refine aw_iload_n dX6_needWhat_2 rfl ?_
  refine aw_callSR (As := [.int (x), .int (nI (0)), .int (nI (b))]) (rest := []) (c_X6_isWithin G x (nI 0) (nI b)) kX6_isWithin w_131 rfl rfl (Nat.le_of_ble_eq_true rfl) dX6_needWhat_3 ⟨Nat.le_of_ble_eq_true rfl, Nat.le_of_ble_eq_true rfl⟩ ⟨Nat.le_of_ble_eq_true rfl, Nat.le_of_ble_eq_true rfl⟩ ?_
  have hh : decide ((nI 0).toInt ≤ x.toInt ∧ x.toInt ≤ (nI b).toInt) = true := by rw [show (nI 0).toInt = 0 by decide, show (nI b).toInt = (b : Int) by first | decide | exact nI_toInt (by omega)]; exact hx
  refine aw_if_neB (tgt := 20) dX6_needWhat_6 (by decide) (fun c1 => ?_) (fun c1 => absurd c1 (by rw [hh]; decide))
  exact aw_return dX6_needWhat_20 rfl ⟨rfl, rfl, rfl⟩ (Nat.le_of_ble_eq_true rfl) (Nat.le_of_ble_eq_true rfl)
set_option maxHeartbeats 4000000 in
set_option maxRecDepth 20000 in
/-- needWhat -/
theorem t_X6_needWhat (G : aG) {h : aH} {nx : Nat} {x : Int32} {b : Nat} (hb : b < 1000) (hx : wIn x 0 b = false) : aMet G mX6_needWhat 6 1 6 [.int (x), .int (nI (b))] h nx (pT xIAE h nx) := by
  refine aMet_of rfl (Nat.le_of_ble_eq_true rfl) ?_
  show aw G mX6_needWhat [] (aRoom 6 1 6) (aEnd G (pT xIAE h nx) 1 6) 0 0 h nx 0 [(0, .int (x)), (1, .int (nI (b)))] []
  refine aw_iload_n dX6_needWhat_0 rfl ?_
  refine aw_ic dX6_needWhat_1 ic_0 ?_
  refine aw_iload_n dX6_needWhat_2 rfl ?_
  refine aw_callSR (As := [.int (x), .int (nI (0)), .int (nI (b))]) (rest := []) (c_X6_isWithin G x (nI 0) (nI b)) kX6_isWithin w_131 rfl rfl (Nat.le_of_ble_eq_true rfl) dX6_needWhat_3 ⟨Nat.le_of_ble_eq_true rfl, Nat.le_of_ble_eq_true rfl⟩ ⟨Nat.le_of_ble_eq_true rfl, Nat.le_of_ble_eq_true rfl⟩ ?_
  have hh : decide ((nI 0).toInt ≤ x.toInt ∧ x.toInt ≤ (nI b).toInt) = false := by rw [show (nI 0).toInt = 0 by decide, show (nI b).toInt = (b : Int) by first | decide | exact nI_toInt (by omega)]; exact hx
  refine aw_if_neB (tgt := 20) dX6_needWhat_6 (by decide) (fun c1 => absurd c1 (by rw [hh]; decide)) (fun c1 => ?_)
  exact aw_throwW (E := xIAE) (text := "nothing is asked with this number") (names := xNs) (by decide +kernel) xNs_fit w_134 w_12 (by decide +kernel) at_IAE dX6_needWhat_9 dX6_needWhat_12 dX6_needWhat_13 dX6_needWhat_16 dX6_needWhat_19 (fun x hx => absurd hx List.not_mem_nil) (by decide) (by decide) (Nat.le_of_ble_eq_true rfl) (Nat.le_of_ble_eq_true rfl) (fun n1 hn1 => ⟨rfl, rfl, hn1⟩) (Nat.le_of_ble_eq_true rfl) (Nat.le_of_ble_eq_true rfl)
