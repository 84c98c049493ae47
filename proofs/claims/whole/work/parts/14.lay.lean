set_option maxHeartbeats 4000000 in
set_option maxRecDepth 20000 in
/-- isWithin(a, b, c) -/
theorem c_X6_isWithin (G : aG) {h : aH} {nx : Nat} (a b c : Int32) : aMet G mX6_isWithin 0 0 0 [.int (a), .int (b), .int (c)] h nx (pI (bI (decide (b.toInt ≤ a.toInt ∧ a.toInt ≤ c.toInt))) h nx) := by
  refine aMet_of rfl (Nat.le_of_ble_eq_true rfl) ?_
  show aw G mX6_isWithin [] (aRoom 0 0 0) (aEnd G (pI (bI (decide (b.toInt ≤ a.toInt ∧ a.toInt ≤ c.toInt))) h nx) 0 0) 0 0 h nx 0 [(0, .int (a)), (1, .int (b)), (2, .int (c))] []
  refine aw_iload_n dX6_isWithin_0 rfl ?_
  refine aw_iload_n dX6_isWithin_1 rfl ?_
  refine aw_icmp_lt (tgt := 14) dX6_isWithin_2 (by decide) (fun c1 => ?_) (fun c1 => ?_)
  · skip
    refine aw_ic dX6_isWithin_14 ic_0 ?_
    exact aw_zreturn dX6_isWithin_15 rfl (bI_nar false) ⟨r_f (decide_eq_false (fun q => by rw [Int32.lt_iff_toInt_lt] at c1; omega)), rfl, rfl⟩ (Nat.le_of_ble_eq_true rfl) (Nat.le_of_ble_eq_true rfl)
  · skip
    refine aw_iload_n dX6_isWithin_5 rfl ?_
    refine aw_iload_n dX6_isWithin_6 rfl ?_
    refine aw_icmp_gt (tgt := 14) dX6_isWithin_7 (by decide) (fun c2 => ?_) (fun c2 => ?_)
    · skip
      refine aw_ic dX6_isWithin_14 ic_0 ?_
      exact aw_zreturn dX6_isWithin_15 rfl (bI_nar false) ⟨r_f (decide_eq_false (fun q => by rw [Int32.lt_iff_toInt_lt] at c2; omega)), rfl, rfl⟩ (Nat.le_of_ble_eq_true rfl) (Nat.le_of_ble_eq_true rfl)
    · skip
      refine aw_ic dX6_isWithin_10 ic_1 ?_
      refine aw_goto (tgt := 15) dX6_isWithin_11 (by decide) ?_
      exact aw_zreturn dX6_isWithin_15 rfl (bI_nar true) ⟨r_t (decide_eq_true (by rw [Int32.lt_iff_toInt_lt] at c1 c2; omega)), rfl, rfl⟩ (Nat.le_of_ble_eq_true rfl) (Nat.le_of_ble_eq_true rfl)
set_option maxHeartbeats 4000000 in
set_option maxRecDepth 20000 in
/-- isDeckSize(a) -/
theorem c_X6_isDeckSize (G : aG) {h : aH} {nx : Nat} (a : Int32) : aMet G mX6_isDeckSize 1 0 0 [.int (a)] h nx (pI (bI (decide (2 ≤ a.toInt ∧ a.toInt ≤ 16))) h nx) := by
  refine aMet_of rfl (Nat.le_of_ble_eq_true rfl) ?_
  show aw G mX6_isDeckSize [] (aRoom 1 0 0) (aEnd G (pI (bI (decide (2 ≤ a.toInt ∧ a.toInt ≤ 16))) h nx) 0 0) 0 0 h nx 0 [(0, .int (a))] []
  refine aw_iload_n dX6_isDeckSize_0 rfl ?_
  refine aw_ic dX6_isDeckSize_1 ic_2 ?_
  refine aw_bp (v := 16) dX6_isDeckSize_2 (by decide) ?_
  refine aw_callSR (As := [.int (a), .int (nI (2)), .int (nI (16))]) (rest := []) (c_X6_isWithin G a (nI 2) (nI 16)) kX6_isWithin w_131 rfl rfl (Nat.le_of_ble_eq_true rfl) dX6_isDeckSize_4 ⟨Nat.le_of_ble_eq_true rfl, Nat.le_of_ble_eq_true rfl⟩ ⟨Nat.le_of_ble_eq_true rfl, Nat.le_of_ble_eq_true rfl⟩ ?_
  exact aw_zreturn dX6_isDeckSize_7 rfl (bI_nar (decide ((nI 2).toInt ≤ a.toInt ∧ a.toInt ≤ (nI 16).toInt))) ⟨rfl, rfl, rfl⟩ (Nat.le_of_ble_eq_true rfl) (Nat.le_of_ble_eq_true rfl)
set_option maxHeartbeats 4000000 in
set_option maxRecDepth 20000 in
/-- isOne(x, y, n) -/
theorem c_X5_isOne (G : aG) {h : aH} {nx n : Nat} (x y : Int32) (hn : 2 ≤ n ∧ n ≤ 16) : aMet G mX5_isOne 3 0 0 [.int (x), .int (y), .int (nI (n))] h nx (pI (bI (isO x.toInt y.toInt n)) h nx) := by
  have tn : (nI n).toInt = (n : Int) := nI_toInt (by omega)
  refine aMet_of rfl (Nat.le_of_ble_eq_true rfl) ?_
  show aw G mX5_isOne [] (aRoom 3 0 0) (aEnd G (pI (bI (isO x.toInt y.toInt n)) h nx) 0 0) 0 0 h nx 0 [(0, .int (x)), (1, .int (y)), (2, .int (nI (n)))] []
  refine aw_iload_n dX5_isOne_0 rfl ?_
  refine aw_callSNR (As := [.int (nI (n))]) (rest := []) (c_X6_isDeckSize G (nI n)) kX6_isDeckSize w_375 rfl rfl (Nat.le_of_ble_eq_true rfl) dX5_isOne_1 ⟨Nat.le_of_ble_eq_true rfl, Nat.le_of_ble_eq_true rfl⟩ ⟨Nat.le_of_ble_eq_true rfl, Nat.le_of_ble_eq_true rfl⟩ ?_
  refine aw_if_neB (tgt := 9) dX5_isOne_4 (by decide) (fun c0 => ?_) (fun c0 => absurd c0 (by rw [tn]; simp; omega))
  refine aw_iload_n dX5_isOne_9 rfl ?_
  rcases (show (x.toInt < 0 ∨ 9 < x.toInt) ∨ x.toInt = 0 ∨ x.toInt = 1 ∨ x.toInt = 2 ∨ x.toInt = 3 ∨ x.toInt = 4 ∨ x.toInt = 5 ∨ x.toInt = 6 ∨ x.toInt = 7 ∨ x.toInt = 8 ∨ x.toInt = 9 by omega) with hx | hx | hx | hx | hx | hx | hx | hx | hx | hx | hx
  · skip
    refine aw_tableOut (tgt := 137) dX5_isOne_10 hx (by decide) ?_
    refine aw_ic dX5_isOne_137 ic_0 ?_
    exact aw_zreturn dX5_isOne_138 rfl (bI_nar false) ⟨r_f (decide_eq_false (by omega)), rfl, rfl⟩ (Nat.le_of_ble_eq_true rfl) (Nat.le_of_ble_eq_true rfl)
  · skip
    refine aw_tableIn (off := 54) (tgt := 64) dX5_isOne_10 (by rw [hx]; decide) (by rw [hx]; decide) (by rw [hx]; rfl) (by decide) ?_
    refine aw_iload_n dX5_isOne_64 rfl ?_
    refine aw_ic dX5_isOne_65 ic_0 ?_
    refine aw_iload_n dX5_isOne_66 rfl ?_
    refine aw_ic dX5_isOne_67 ic_1 ?_
    refine aw_isubN (by omega) dX5_isOne_68 ?_
    refine aw_callSNR (As := [.int (y), .int (nI (0)), .int (nI (n - 1))]) (rest := []) (c_X6_isWithin G y (nI 0) (nI (n - 1))) kX6_isWithin w_378 rfl rfl (Nat.le_of_ble_eq_true rfl) dX5_isOne_69 ⟨Nat.le_of_ble_eq_true rfl, Nat.le_of_ble_eq_true rfl⟩ ⟨Nat.le_of_ble_eq_true rfl, Nat.le_of_ble_eq_true rfl⟩ ?_
    exact aw_zreturn dX5_isOne_72 rfl (bI_nar (decide ((nI 0).toInt ≤ y.toInt ∧ y.toInt ≤ (nI (n - 1)).toInt))) ⟨r_i (congrArg bI (by have t1 : (nI (n - 1)).toInt = ((n - 1 : Nat) : Int) := nI_toInt (by omega); have t0 : (nI 0).toInt = 0 := (by decide); rw [t0, t1]; unfold isO; rw [hx]; exact decide_eq_decide.mpr (by omega))), rfl, rfl⟩ (Nat.le_of_ble_eq_true rfl) (Nat.le_of_ble_eq_true rfl)
  · skip
    refine aw_tableIn (off := 63) (tgt := 73) dX5_isOne_10 (by rw [hx]; decide) (by rw [hx]; decide) (by rw [hx]; rfl) (by decide) ?_
    refine aw_iload_n dX5_isOne_73 rfl ?_
    refine aw_if_ne (tgt := 87) dX5_isOne_74 (by decide) (fun c1 => ?_) (fun c1 => ?_)
    · skip
      refine aw_ic dX5_isOne_87 ic_0 ?_
      exact aw_zreturn dX5_isOne_88 rfl (bI_nar false) ⟨r_f (decide_eq_false (by rw [hx]; intro q; apply c1; rw [← Int32.toInt_inj]; have e0 : (0 : Int32).toInt = 0 := (by decide); omega)), rfl, rfl⟩ (Nat.le_of_ble_eq_true rfl) (Nat.le_of_ble_eq_true rfl)
    · skip
      refine aw_iload_n dX5_isOne_77 rfl ?_
      refine aw_ic dX5_isOne_78 ic_2 ?_
      refine aw_iremN (by omega) (by omega) (by omega) dX5_isOne_79 ?_
      have hml := Nat.mod_lt n (show 0 < 2 by decide)
      refine aw_if_neN (tgt := 87) (by omega) dX5_isOne_80 (by decide) (fun c2 => ?_) (fun c2 => ?_)
      · skip
        refine aw_ic dX5_isOne_87 ic_0 ?_
        exact aw_zreturn dX5_isOne_88 rfl (bI_nar false) ⟨r_f (decide_eq_false (by rw [hx]; omega)), rfl, rfl⟩ (Nat.le_of_ble_eq_true rfl) (Nat.le_of_ble_eq_true rfl)
      · skip
        refine aw_ic dX5_isOne_83 ic_1 ?_
        refine aw_goto (tgt := 88) dX5_isOne_84 (by decide) ?_
        exact aw_zreturn dX5_isOne_88 rfl (bI_nar true) ⟨r_t (decide_eq_true (by have e0 : (0 : Int32).toInt = 0 := (by decide); rw [hx, c1]; omega)), rfl, rfl⟩ (Nat.le_of_ble_eq_true rfl) (Nat.le_of_ble_eq_true rfl)
  · skip
    refine aw_tableIn (off := 63) (tgt := 73) dX5_isOne_10 (by rw [hx]; decide) (by rw [hx]; decide) (by rw [hx]; rfl) (by decide) ?_
    refine aw_iload_n dX5_isOne_73 rfl ?_
    refine aw_if_ne (tgt := 87) dX5_isOne_74 (by decide) (fun c1 => ?_) (fun c1 => ?_)
    · skip
      refine aw_ic dX5_isOne_87 ic_0 ?_
      exact aw_zreturn dX5_isOne_88 rfl (bI_nar false) ⟨r_f (decide_eq_false (by rw [hx]; intro q; apply c1; rw [← Int32.toInt_inj]; have e0 : (0 : Int32).toInt = 0 := (by decide); omega)), rfl, rfl⟩ (Nat.le_of_ble_eq_true rfl) (Nat.le_of_ble_eq_true rfl)
    · skip
      refine aw_iload_n dX5_isOne_77 rfl ?_
      refine aw_ic dX5_isOne_78 ic_2 ?_
      refine aw_iremN (by omega) (by omega) (by omega) dX5_isOne_79 ?_
      have hml := Nat.mod_lt n (show 0 < 2 by decide)
      refine aw_if_neN (tgt := 87) (by omega) dX5_isOne_80 (by decide) (fun c2 => ?_) (fun c2 => ?_)
      · skip
        refine aw_ic dX5_isOne_87 ic_0 ?_
        exact aw_zreturn dX5_isOne_88 rfl (bI_nar false) ⟨r_f (decide_eq_false (by rw [hx]; omega)), rfl, rfl⟩ (Nat.le_of_ble_eq_true rfl) (Nat.le_of_ble_eq_true rfl)
      · skip
        refine aw_ic dX5_isOne_83 ic_1 ?_
        refine aw_goto (tgt := 88) dX5_isOne_84 (by decide) ?_
        exact aw_zreturn dX5_isOne_88 rfl (bI_nar true) ⟨r_t (decide_eq_true (by have e0 : (0 : Int32).toInt = 0 := (by decide); rw [hx, c1]; omega)), rfl, rfl⟩ (Nat.le_of_ble_eq_true rfl) (Nat.le_of_ble_eq_true rfl)
  · skip
    refine aw_tableIn (off := 79) (tgt := 89) dX5_isOne_10 (by rw [hx]; decide) (by rw [hx]; decide) (by rw [hx]; rfl) (by decide) ?_
    refine aw_iload_n dX5_isOne_89 rfl ?_
    refine aw_if_ne (tgt := 97) dX5_isOne_90 (by decide) (fun c1 => ?_) (fun c1 => ?_)
    · skip
      refine aw_ic dX5_isOne_97 ic_0 ?_
      exact aw_zreturn dX5_isOne_98 rfl (bI_nar false) ⟨r_f (decide_eq_false (by rw [hx]; intro q; apply c1; rw [← Int32.toInt_inj]; have e0 : (0 : Int32).toInt = 0 := (by decide); omega)), rfl, rfl⟩ (Nat.le_of_ble_eq_true rfl) (Nat.le_of_ble_eq_true rfl)
    · skip
      refine aw_ic dX5_isOne_93 ic_1 ?_
      refine aw_goto (tgt := 98) dX5_isOne_94 (by decide) ?_
      exact aw_zreturn dX5_isOne_98 rfl (bI_nar true) ⟨r_t (decide_eq_true (by have e0 : (0 : Int32).toInt = 0 := (by decide); rw [hx, c1]; omega)), rfl, rfl⟩ (Nat.le_of_ble_eq_true rfl) (Nat.le_of_ble_eq_true rfl)
  · skip
    refine aw_tableIn (off := 79) (tgt := 89) dX5_isOne_10 (by rw [hx]; decide) (by rw [hx]; decide) (by rw [hx]; rfl) (by decide) ?_
    refine aw_iload_n dX5_isOne_89 rfl ?_
    refine aw_if_ne (tgt := 97) dX5_isOne_90 (by decide) (fun c1 => ?_) (fun c1 => ?_)
    · skip
      refine aw_ic dX5_isOne_97 ic_0 ?_
      exact aw_zreturn dX5_isOne_98 rfl (bI_nar false) ⟨r_f (decide_eq_false (by rw [hx]; intro q; apply c1; rw [← Int32.toInt_inj]; have e0 : (0 : Int32).toInt = 0 := (by decide); omega)), rfl, rfl⟩ (Nat.le_of_ble_eq_true rfl) (Nat.le_of_ble_eq_true rfl)
    · skip
      refine aw_ic dX5_isOne_93 ic_1 ?_
      refine aw_goto (tgt := 98) dX5_isOne_94 (by decide) ?_
      exact aw_zreturn dX5_isOne_98 rfl (bI_nar true) ⟨r_t (decide_eq_true (by have e0 : (0 : Int32).toInt = 0 := (by decide); rw [hx, c1]; omega)), rfl, rfl⟩ (Nat.le_of_ble_eq_true rfl) (Nat.le_of_ble_eq_true rfl)
  · skip
    refine aw_tableIn (off := 89) (tgt := 99) dX5_isOne_10 (by rw [hx]; decide) (by rw [hx]; decide) (by rw [hx]; rfl) (by decide) ?_
    refine aw_iload_n dX5_isOne_99 rfl ?_
    refine aw_ic dX5_isOne_100 ic_2 ?_
    refine aw_ic dX5_isOne_101 ic_4 ?_
    refine aw_callSNR (As := [.int (y), .int (nI (2)), .int (nI (4))]) (rest := []) (c_X6_isWithin G y (nI 2) (nI 4)) kX6_isWithin w_378 rfl rfl (Nat.le_of_ble_eq_true rfl) dX5_isOne_102 ⟨Nat.le_of_ble_eq_true rfl, Nat.le_of_ble_eq_true rfl⟩ ⟨Nat.le_of_ble_eq_true rfl, Nat.le_of_ble_eq_true rfl⟩ ?_
    exact aw_zreturn dX5_isOne_105 rfl (bI_nar (decide ((nI 2).toInt ≤ y.toInt ∧ y.toInt ≤ (nI 4).toInt))) ⟨r_i (congrArg bI (by have t0 : (nI 2).toInt = 2 := (by decide); have t1 : (nI 4).toInt = 4 := (by decide); rw [t0, t1]; unfold isO; rw [hx]; exact decide_eq_decide.mpr (by omega))), rfl, rfl⟩ (Nat.le_of_ble_eq_true rfl) (Nat.le_of_ble_eq_true rfl)
  · skip
    refine aw_tableIn (off := 96) (tgt := 106) dX5_isOne_10 (by rw [hx]; decide) (by rw [hx]; decide) (by rw [hx]; rfl) (by decide) ?_
    refine aw_iload_n dX5_isOne_106 rfl ?_
    refine aw_ic dX5_isOne_107 ic_0 ?_
    refine aw_iload_n dX5_isOne_108 rfl ?_
    refine aw_callSNR (As := [.int (y), .int (nI (0)), .int (nI (n))]) (rest := []) (c_X6_isWithin G y (nI 0) (nI n)) kX6_isWithin w_378 rfl rfl (Nat.le_of_ble_eq_true rfl) dX5_isOne_109 ⟨Nat.le_of_ble_eq_true rfl, Nat.le_of_ble_eq_true rfl⟩ ⟨Nat.le_of_ble_eq_true rfl, Nat.le_of_ble_eq_true rfl⟩ ?_
    exact aw_zreturn dX5_isOne_112 rfl (bI_nar (decide ((nI 0).toInt ≤ y.toInt ∧ y.toInt ≤ (nI n).toInt))) ⟨r_i (congrArg bI (by have t0 : (nI 0).toInt = 0 := (by decide); rw [t0, tn]; unfold isO; rw [hx]; exact decide_eq_decide.mpr (by omega))), rfl, rfl⟩ (Nat.le_of_ble_eq_true rfl) (Nat.le_of_ble_eq_true rfl)
  · skip
    refine aw_tableIn (off := 96) (tgt := 106) dX5_isOne_10 (by rw [hx]; decide) (by rw [hx]; decide) (by rw [hx]; rfl) (by decide) ?_
    refine aw_iload_n dX5_isOne_106 rfl ?_
    refine aw_ic dX5_isOne_107 ic_0 ?_
    refine aw_iload_n dX5_isOne_108 rfl ?_
    refine aw_callSNR (As := [.int (y), .int (nI (0)), .int (nI (n))]) (rest := []) (c_X6_isWithin G y (nI 0) (nI n)) kX6_isWithin w_378 rfl rfl (Nat.le_of_ble_eq_true rfl) dX5_isOne_109 ⟨Nat.le_of_ble_eq_true rfl, Nat.le_of_ble_eq_true rfl⟩ ⟨Nat.le_of_ble_eq_true rfl, Nat.le_of_ble_eq_true rfl⟩ ?_
    exact aw_zreturn dX5_isOne_112 rfl (bI_nar (decide ((nI 0).toInt ≤ y.toInt ∧ y.toInt ≤ (nI n).toInt))) ⟨r_i (congrArg bI (by have t0 : (nI 0).toInt = 0 := (by decide); rw [t0, tn]; unfold isO; rw [hx]; exact decide_eq_decide.mpr (by omega))), rfl, rfl⟩ (Nat.le_of_ble_eq_true rfl) (Nat.le_of_ble_eq_true rfl)
  · skip
    refine aw_tableIn (off := 103) (tgt := 113) dX5_isOne_10 (by rw [hx]; decide) (by rw [hx]; decide) (by rw [hx]; rfl) (by decide) ?_
    refine aw_iload_n dX5_isOne_113 rfl ?_
    refine aw_ic dX5_isOne_114 ic_0 ?_
    refine aw_ic dX5_isOne_115 ic_1 ?_
    refine aw_iload_n dX5_isOne_116 rfl ?_
    refine aw_ishl dX5_isOne_117 ?_
    refine aw_top (show ((nI (1)) <<< ((nI (n)) &&& 31)) = (nI (2 ^ n)) from n_shl1 n (by omega)) ?_
    have hp : 1 ≤ 2 ^ n ∧ 2 ^ n ≤ 2 ^ 16 := ⟨Nat.one_le_two_pow, Nat.pow_le_pow_right (by decide) hn.2⟩
    refine aw_ic dX5_isOne_118 ic_1 ?_
    refine aw_isubN (by omega) dX5_isOne_119 ?_
    refine aw_callSNR (As := [.int (y), .int (nI (0)), .int (nI ((2 ^ n) - 1))]) (rest := []) (c_X6_isWithin G y (nI 0) (nI (2 ^ n - 1))) kX6_isWithin w_378 rfl rfl (Nat.le_of_ble_eq_true rfl) dX5_isOne_120 ⟨Nat.le_of_ble_eq_true rfl, Nat.le_of_ble_eq_true rfl⟩ ⟨Nat.le_of_ble_eq_true rfl, Nat.le_of_ble_eq_true rfl⟩ ?_
    exact aw_zreturn dX5_isOne_123 rfl (bI_nar (decide ((nI 0).toInt ≤ y.toInt ∧ y.toInt ≤ (nI (2 ^ n - 1)).toInt))) ⟨r_i (congrArg bI (by have t1 : (nI (2 ^ n - 1)).toInt = ((2 ^ n - 1 : Nat) : Int) := nI_toInt (by omega); have t0 : (nI 0).toInt = 0 := (by decide); rw [t0, t1]; unfold isO; rw [hx]; exact decide_eq_decide.mpr (by omega))), rfl, rfl⟩ (Nat.le_of_ble_eq_true rfl) (Nat.le_of_ble_eq_true rfl)
  · skip
    refine aw_tableIn (off := 114) (tgt := 124) dX5_isOne_10 (by rw [hx]; decide) (by rw [hx]; decide) (by rw [hx]; rfl) (by decide) ?_
    refine aw_iload_n dX5_isOne_124 rfl ?_
    refine aw_ic dX5_isOne_125 ic_0 ?_
    refine aw_ic dX5_isOne_126 ic_1 ?_
    refine aw_iload_n dX5_isOne_127 rfl ?_
    refine aw_ic dX5_isOne_128 ic_1 ?_
    refine aw_isubN (by omega) dX5_isOne_129 ?_
    refine aw_ishl dX5_isOne_130 ?_
    refine aw_top (show ((nI (1)) <<< ((nI (n - 1)) &&& 31)) = (nI (2 ^ (n - 1))) from n_shl1 (n - 1) (by omega)) ?_
    have hp : 1 ≤ 2 ^ (n - 1) ∧ 2 ^ (n - 1) ≤ 2 ^ 16 := ⟨Nat.one_le_two_pow, Nat.pow_le_pow_right (by decide) (by omega)⟩
    refine aw_ic dX5_isOne_131 ic_1 ?_
    refine aw_isubN (by omega) dX5_isOne_132 ?_
    refine aw_callSNR (As := [.int (y), .int (nI (0)), .int (nI ((2 ^ (n - 1)) - 1))]) (rest := []) (c_X6_isWithin G y (nI 0) (nI (2 ^ (n - 1) - 1))) kX6_isWithin w_378 rfl rfl (Nat.le_of_ble_eq_true rfl) dX5_isOne_133 ⟨Nat.le_of_ble_eq_true rfl, Nat.le_of_ble_eq_true rfl⟩ ⟨Nat.le_of_ble_eq_true rfl, Nat.le_of_ble_eq_true rfl⟩ ?_
    exact aw_zreturn dX5_isOne_136 rfl (bI_nar (decide ((nI 0).toInt ≤ y.toInt ∧ y.toInt ≤ (nI (2 ^ (n - 1) - 1)).toInt))) ⟨r_i (congrArg bI (by have t1 : (nI (2 ^ (n - 1) - 1)).toInt = ((2 ^ (n - 1) - 1 : Nat) : Int) := nI_toInt (by omega); have t0 : (nI 0).toInt = 0 := (by decide); rw [t0, t1]; unfold isO; rw [hx]; exact decide_eq_decide.mpr (by omega))), rfl, rfl⟩ (Nat.le_of_ble_eq_true rfl) (Nat.le_of_ble_eq_true rfl)
