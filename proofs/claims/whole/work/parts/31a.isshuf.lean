set_option maxHeartbeats 4000000 in
set_option maxRecDepth 20000 in
/-- is(a, b, c) of the model -/
theorem c_X9_is (G : aG) {h : aH} {nx : Nat} (a b c : Int32) : aMet G mX9_is 0 0 0 [.int (a), .int (b), .int (c)] h nx (pI (bI (decide (b.toInt ≤ a.toInt ∧ a.toInt ≤ c.toInt))) h nx) := by
  refine aMet_of rfl (Nat.le_of_ble_eq_true rfl) ?_
  show aw G mX9_is [] (aRoom 0 0 0) (aEnd G (pI (bI (decide (b.toInt ≤ a.toInt ∧ a.toInt ≤ c.toInt))) h nx) 0 0) 0 0 h nx 0 [(0, .int (a)), (1, .int (b)), (2, .int (c))] []
  refine aw_iload_n dX9_is_0 rfl ?_
  refine aw_iload_n dX9_is_1 rfl ?_
  refine aw_icmp_lt (tgt := 14) dX9_is_2 (by decide) (fun c1 => ?_) (fun c1 => ?_)
  · skip
    refine aw_ic dX9_is_14 ic_0 ?_
    exact aw_zreturn dX9_is_15 rfl (bI_nar false) ⟨r_f (decide_eq_false (fun q => by rw [Int32.lt_iff_toInt_lt] at c1; omega)), rfl, rfl⟩ (Nat.le_of_ble_eq_true rfl) (Nat.le_of_ble_eq_true rfl)
  · skip
    refine aw_iload_n dX9_is_5 rfl ?_
    refine aw_iload_n dX9_is_6 rfl ?_
    refine aw_icmp_gt (tgt := 14) dX9_is_7 (by decide) (fun c2 => ?_) (fun c2 => ?_)
    · skip
      refine aw_ic dX9_is_14 ic_0 ?_
      exact aw_zreturn dX9_is_15 rfl (bI_nar false) ⟨r_f (decide_eq_false (fun q => by rw [Int32.lt_iff_toInt_lt] at c2; omega)), rfl, rfl⟩ (Nat.le_of_ble_eq_true rfl) (Nat.le_of_ble_eq_true rfl)
    · skip
      refine aw_ic dX9_is_10 ic_1 ?_
      refine aw_goto (tgt := 15) dX9_is_11 (by decide) ?_
      exact aw_zreturn dX9_is_15 rfl (bI_nar true) ⟨r_t (decide_eq_true (by rw [Int32.lt_iff_toInt_lt] at c1 c2; omega)), rfl, rfl⟩ (Nat.le_of_ble_eq_true rfl) (Nat.le_of_ble_eq_true rfl)
set_option maxHeartbeats 4000000 in
set_option maxRecDepth 20000 in
/-- isShuffle(x, y, n) -/
theorem c_X9_isShuffle (G : aG) {h : aH} {nx n : Nat} (x y : Int32) (hn : 2 ≤ n ∧ n ≤ 16) : aMet G mX9_isShuffle 1 0 0 [.int (x), .int (y), .int (nI (n))] h nx (pI (bI (isO x.toInt y.toInt n)) h nx) := by
  have tn : (nI n).toInt = (n : Int) := nI_toInt (by omega)
  refine aMet_of rfl (Nat.le_of_ble_eq_true rfl) ?_
  show aw G mX9_isShuffle [] (aRoom 1 0 0) (aEnd G (pI (bI (isO x.toInt y.toInt n)) h nx) 0 0) 0 0 h nx 0 [(0, .int (x)), (1, .int (y)), (2, .int (nI (n)))] []
  refine aw_iload_n dX9_isShuffle_0 rfl ?_
  rcases (show (x.toInt < 0 ∨ 9 < x.toInt) ∨ x.toInt = 0 ∨ x.toInt = 1 ∨ x.toInt = 2 ∨ x.toInt = 3 ∨ x.toInt = 4 ∨ x.toInt = 5 ∨ x.toInt = 6 ∨ x.toInt = 7 ∨ x.toInt = 8 ∨ x.toInt = 9 by omega) with hx | hx | hx | hx | hx | hx | hx | hx | hx | hx | hx
  · skip
    refine aw_tableOut (tgt := 129) dX9_isShuffle_1 hx (by decide) ?_
    refine aw_ic dX9_isShuffle_129 ic_0 ?_
    exact aw_zreturn dX9_isShuffle_130 rfl (bI_nar false) ⟨r_f (decide_eq_false (by omega)), rfl, rfl⟩ (Nat.le_of_ble_eq_true rfl) (Nat.le_of_ble_eq_true rfl)
  · skip
    refine aw_tableIn (off := 55) (tgt := 56) dX9_isShuffle_1 (by rw [hx]; decide) (by rw [hx]; decide) (by rw [hx]; rfl) (by decide) ?_
    refine aw_iload_n dX9_isShuffle_56 rfl ?_
    refine aw_ic dX9_isShuffle_57 ic_0 ?_
    refine aw_iload_n dX9_isShuffle_58 rfl ?_
    refine aw_ic dX9_isShuffle_59 ic_1 ?_
    refine aw_isubN (by omega) dX9_isShuffle_60 ?_
    refine aw_callSR (As := [.int (y), .int (nI (0)), .int (nI (n - 1))]) (rest := []) (c_X9_is G y (nI 0) (nI (n - 1))) kX9_is w_754 rfl rfl (Nat.le_of_ble_eq_true rfl) dX9_isShuffle_61 ⟨Nat.le_of_ble_eq_true rfl, Nat.le_of_ble_eq_true rfl⟩ ⟨Nat.le_of_ble_eq_true rfl, Nat.le_of_ble_eq_true rfl⟩ ?_
    exact aw_zreturn dX9_isShuffle_64 rfl (bI_nar (decide ((nI 0).toInt ≤ y.toInt ∧ y.toInt ≤ (nI (n - 1)).toInt))) ⟨r_i (congrArg bI (by have t1 : (nI (n - 1)).toInt = ((n - 1 : Nat) : Int) := nI_toInt (by omega); have t0 : (nI 0).toInt = 0 := (by decide); rw [t0, t1]; unfold isO; rw [hx]; exact decide_eq_decide.mpr (by omega))), rfl, rfl⟩ (Nat.le_of_ble_eq_true rfl) (Nat.le_of_ble_eq_true rfl)
  · skip
    refine aw_tableIn (off := 64) (tgt := 65) dX9_isShuffle_1 (by rw [hx]; decide) (by rw [hx]; decide) (by rw [hx]; rfl) (by decide) ?_
    refine aw_iload_n dX9_isShuffle_65 rfl ?_
    refine aw_if_ne (tgt := 79) dX9_isShuffle_66 (by decide) (fun c1 => ?_) (fun c1 => ?_)
    · skip
      refine aw_ic dX9_isShuffle_79 ic_0 ?_
      exact aw_zreturn dX9_isShuffle_80 rfl (bI_nar false) ⟨r_f (decide_eq_false (by rw [hx]; intro q; apply c1; rw [← Int32.toInt_inj]; have e0 : (0 : Int32).toInt = 0 := (by decide); omega)), rfl, rfl⟩ (Nat.le_of_ble_eq_true rfl) (Nat.le_of_ble_eq_true rfl)
    · skip
      refine aw_iload_n dX9_isShuffle_69 rfl ?_
      refine aw_ic dX9_isShuffle_70 ic_2 ?_
      refine aw_iremN (by omega) (by omega) (by omega) dX9_isShuffle_71 ?_
      have hml := Nat.mod_lt n (show 0 < 2 by decide)
      refine aw_if_neN (tgt := 79) (by omega) dX9_isShuffle_72 (by decide) (fun c2 => ?_) (fun c2 => ?_)
      · skip
        refine aw_ic dX9_isShuffle_79 ic_0 ?_
        exact aw_zreturn dX9_isShuffle_80 rfl (bI_nar false) ⟨r_f (decide_eq_false (by rw [hx]; omega)), rfl, rfl⟩ (Nat.le_of_ble_eq_true rfl) (Nat.le_of_ble_eq_true rfl)
      · skip
        refine aw_ic dX9_isShuffle_75 ic_1 ?_
        refine aw_goto (tgt := 80) dX9_isShuffle_76 (by decide) ?_
        exact aw_zreturn dX9_isShuffle_80 rfl (bI_nar true) ⟨r_t (decide_eq_true (by have e0 : (0 : Int32).toInt = 0 := (by decide); rw [hx, c1]; omega)), rfl, rfl⟩ (Nat.le_of_ble_eq_true rfl) (Nat.le_of_ble_eq_true rfl)
  · skip
    refine aw_tableIn (off := 64) (tgt := 65) dX9_isShuffle_1 (by rw [hx]; decide) (by rw [hx]; decide) (by rw [hx]; rfl) (by decide) ?_
    refine aw_iload_n dX9_isShuffle_65 rfl ?_
    refine aw_if_ne (tgt := 79) dX9_isShuffle_66 (by decide) (fun c1 => ?_) (fun c1 => ?_)
    · skip
      refine aw_ic dX9_isShuffle_79 ic_0 ?_
      exact aw_zreturn dX9_isShuffle_80 rfl (bI_nar false) ⟨r_f (decide_eq_false (by rw [hx]; intro q; apply c1; rw [← Int32.toInt_inj]; have e0 : (0 : Int32).toInt = 0 := (by decide); omega)), rfl, rfl⟩ (Nat.le_of_ble_eq_true rfl) (Nat.le_of_ble_eq_true rfl)
    · skip
      refine aw_iload_n dX9_isShuffle_69 rfl ?_
      refine aw_ic dX9_isShuffle_70 ic_2 ?_
      refine aw_iremN (by omega) (by omega) (by omega) dX9_isShuffle_71 ?_
      have hml := Nat.mod_lt n (show 0 < 2 by decide)
      refine aw_if_neN (tgt := 79) (by omega) dX9_isShuffle_72 (by decide) (fun c2 => ?_) (fun c2 => ?_)
      · skip
        refine aw_ic dX9_isShuffle_79 ic_0 ?_
        exact aw_zreturn dX9_isShuffle_80 rfl (bI_nar false) ⟨r_f (decide_eq_false (by rw [hx]; omega)), rfl, rfl⟩ (Nat.le_of_ble_eq_true rfl) (Nat.le_of_ble_eq_true rfl)
      · skip
        refine aw_ic dX9_isShuffle_75 ic_1 ?_
        refine aw_goto (tgt := 80) dX9_isShuffle_76 (by decide) ?_
        exact aw_zreturn dX9_isShuffle_80 rfl (bI_nar true) ⟨r_t (decide_eq_true (by have e0 : (0 : Int32).toInt = 0 := (by decide); rw [hx, c1]; omega)), rfl, rfl⟩ (Nat.le_of_ble_eq_true rfl) (Nat.le_of_ble_eq_true rfl)
  · skip
    refine aw_tableIn (off := 80) (tgt := 81) dX9_isShuffle_1 (by rw [hx]; decide) (by rw [hx]; decide) (by rw [hx]; rfl) (by decide) ?_
    refine aw_iload_n dX9_isShuffle_81 rfl ?_
    refine aw_if_ne (tgt := 89) dX9_isShuffle_82 (by decide) (fun c1 => ?_) (fun c1 => ?_)
    · skip
      refine aw_ic dX9_isShuffle_89 ic_0 ?_
      exact aw_zreturn dX9_isShuffle_90 rfl (bI_nar false) ⟨r_f (decide_eq_false (by rw [hx]; intro q; apply c1; rw [← Int32.toInt_inj]; have e0 : (0 : Int32).toInt = 0 := (by decide); omega)), rfl, rfl⟩ (Nat.le_of_ble_eq_true rfl) (Nat.le_of_ble_eq_true rfl)
    · skip
      refine aw_ic dX9_isShuffle_85 ic_1 ?_
      refine aw_goto (tgt := 90) dX9_isShuffle_86 (by decide) ?_
      exact aw_zreturn dX9_isShuffle_90 rfl (bI_nar true) ⟨r_t (decide_eq_true (by have e0 : (0 : Int32).toInt = 0 := (by decide); rw [hx, c1]; omega)), rfl, rfl⟩ (Nat.le_of_ble_eq_true rfl) (Nat.le_of_ble_eq_true rfl)
  · skip
    refine aw_tableIn (off := 80) (tgt := 81) dX9_isShuffle_1 (by rw [hx]; decide) (by rw [hx]; decide) (by rw [hx]; rfl) (by decide) ?_
    refine aw_iload_n dX9_isShuffle_81 rfl ?_
    refine aw_if_ne (tgt := 89) dX9_isShuffle_82 (by decide) (fun c1 => ?_) (fun c1 => ?_)
    · skip
      refine aw_ic dX9_isShuffle_89 ic_0 ?_
      exact aw_zreturn dX9_isShuffle_90 rfl (bI_nar false) ⟨r_f (decide_eq_false (by rw [hx]; intro q; apply c1; rw [← Int32.toInt_inj]; have e0 : (0 : Int32).toInt = 0 := (by decide); omega)), rfl, rfl⟩ (Nat.le_of_ble_eq_true rfl) (Nat.le_of_ble_eq_true rfl)
    · skip
      refine aw_ic dX9_isShuffle_85 ic_1 ?_
      refine aw_goto (tgt := 90) dX9_isShuffle_86 (by decide) ?_
      exact aw_zreturn dX9_isShuffle_90 rfl (bI_nar true) ⟨r_t (decide_eq_true (by have e0 : (0 : Int32).toInt = 0 := (by decide); rw [hx, c1]; omega)), rfl, rfl⟩ (Nat.le_of_ble_eq_true rfl) (Nat.le_of_ble_eq_true rfl)
  · skip
    refine aw_tableIn (off := 90) (tgt := 91) dX9_isShuffle_1 (by rw [hx]; decide) (by rw [hx]; decide) (by rw [hx]; rfl) (by decide) ?_
    refine aw_iload_n dX9_isShuffle_91 rfl ?_
    refine aw_ic dX9_isShuffle_92 ic_2 ?_
    refine aw_ic dX9_isShuffle_93 ic_4 ?_
    refine aw_callSR (As := [.int (y), .int (nI (2)), .int (nI (4))]) (rest := []) (c_X9_is G y (nI 2) (nI 4)) kX9_is w_754 rfl rfl (Nat.le_of_ble_eq_true rfl) dX9_isShuffle_94 ⟨Nat.le_of_ble_eq_true rfl, Nat.le_of_ble_eq_true rfl⟩ ⟨Nat.le_of_ble_eq_true rfl, Nat.le_of_ble_eq_true rfl⟩ ?_
    exact aw_zreturn dX9_isShuffle_97 rfl (bI_nar (decide ((nI 2).toInt ≤ y.toInt ∧ y.toInt ≤ (nI 4).toInt))) ⟨r_i (congrArg bI (by have t0 : (nI 2).toInt = 2 := (by decide); have t1 : (nI 4).toInt = 4 := (by decide); rw [t0, t1]; unfold isO; rw [hx]; exact decide_eq_decide.mpr (by omega))), rfl, rfl⟩ (Nat.le_of_ble_eq_true rfl) (Nat.le_of_ble_eq_true rfl)
  · skip
    refine aw_tableIn (off := 97) (tgt := 98) dX9_isShuffle_1 (by rw [hx]; decide) (by rw [hx]; decide) (by rw [hx]; rfl) (by decide) ?_
    refine aw_iload_n dX9_isShuffle_98 rfl ?_
    refine aw_ic dX9_isShuffle_99 ic_0 ?_
    refine aw_iload_n dX9_isShuffle_100 rfl ?_
    refine aw_callSR (As := [.int (y), .int (nI (0)), .int (nI (n))]) (rest := []) (c_X9_is G y (nI 0) (nI n)) kX9_is w_754 rfl rfl (Nat.le_of_ble_eq_true rfl) dX9_isShuffle_101 ⟨Nat.le_of_ble_eq_true rfl, Nat.le_of_ble_eq_true rfl⟩ ⟨Nat.le_of_ble_eq_true rfl, Nat.le_of_ble_eq_true rfl⟩ ?_
    exact aw_zreturn dX9_isShuffle_104 rfl (bI_nar (decide ((nI 0).toInt ≤ y.toInt ∧ y.toInt ≤ (nI n).toInt))) ⟨r_i (congrArg bI (by have t0 : (nI 0).toInt = 0 := (by decide); rw [t0, tn]; unfold isO; rw [hx]; exact decide_eq_decide.mpr (by omega))), rfl, rfl⟩ (Nat.le_of_ble_eq_true rfl) (Nat.le_of_ble_eq_true rfl)
  · skip
    refine aw_tableIn (off := 97) (tgt := 98) dX9_isShuffle_1 (by rw [hx]; decide) (by rw [hx]; decide) (by rw [hx]; rfl) (by decide) ?_
    refine aw_iload_n dX9_isShuffle_98 rfl ?_
    refine aw_ic dX9_isShuffle_99 ic_0 ?_
    refine aw_iload_n dX9_isShuffle_100 rfl ?_
    refine aw_callSR (As := [.int (y), .int (nI (0)), .int (nI (n))]) (rest := []) (c_X9_is G y (nI 0) (nI n)) kX9_is w_754 rfl rfl (Nat.le_of_ble_eq_true rfl) dX9_isShuffle_101 ⟨Nat.le_of_ble_eq_true rfl, Nat.le_of_ble_eq_true rfl⟩ ⟨Nat.le_of_ble_eq_true rfl, Nat.le_of_ble_eq_true rfl⟩ ?_
    exact aw_zreturn dX9_isShuffle_104 rfl (bI_nar (decide ((nI 0).toInt ≤ y.toInt ∧ y.toInt ≤ (nI n).toInt))) ⟨r_i (congrArg bI (by have t0 : (nI 0).toInt = 0 := (by decide); rw [t0, tn]; unfold isO; rw [hx]; exact decide_eq_decide.mpr (by omega))), rfl, rfl⟩ (Nat.le_of_ble_eq_true rfl) (Nat.le_of_ble_eq_true rfl)
  · skip
    refine aw_tableIn (off := 104) (tgt := 105) dX9_isShuffle_1 (by rw [hx]; decide) (by rw [hx]; decide) (by rw [hx]; rfl) (by decide) ?_
    refine aw_iload_n dX9_isShuffle_105 rfl ?_
    refine aw_ic dX9_isShuffle_106 ic_0 ?_
    refine aw_ic dX9_isShuffle_107 ic_1 ?_
    refine aw_iload_n dX9_isShuffle_108 rfl ?_
    refine aw_ishl dX9_isShuffle_109 ?_
    refine aw_top (show ((nI (1)) <<< ((nI (n)) &&& 31)) = (nI (2 ^ n)) from n_shl1 n (by omega)) ?_
    have hp : 1 ≤ 2 ^ n ∧ 2 ^ n ≤ 2 ^ 16 := ⟨Nat.one_le_two_pow, Nat.pow_le_pow_right (by decide) hn.2⟩
    refine aw_ic dX9_isShuffle_110 ic_1 ?_
    refine aw_isubN (by omega) dX9_isShuffle_111 ?_
    refine aw_callSR (As := [.int (y), .int (nI (0)), .int (nI ((2 ^ n) - 1))]) (rest := []) (c_X9_is G y (nI 0) (nI (2 ^ n - 1))) kX9_is w_754 rfl rfl (Nat.le_of_ble_eq_true rfl) dX9_isShuffle_112 ⟨Nat.le_of_ble_eq_true rfl, Nat.le_of_ble_eq_true rfl⟩ ⟨Nat.le_of_ble_eq_true rfl, Nat.le_of_ble_eq_true rfl⟩ ?_
    exact aw_zreturn dX9_isShuffle_115 rfl (bI_nar (decide ((nI 0).toInt ≤ y.toInt ∧ y.toInt ≤ (nI (2 ^ n - 1)).toInt))) ⟨r_i (congrArg bI (by have t1 : (nI (2 ^ n - 1)).toInt = ((2 ^ n - 1 : Nat) : Int) := nI_toInt (by omega); have t0 : (nI 0).toInt = 0 := (by decide); rw [t0, t1]; unfold isO; rw [hx]; exact decide_eq_decide.mpr (by omega))), rfl, rfl⟩ (Nat.le_of_ble_eq_true rfl) (Nat.le_of_ble_eq_true rfl)
  · skip
    refine aw_tableIn (off := 115) (tgt := 116) dX9_isShuffle_1 (by rw [hx]; decide) (by rw [hx]; decide) (by rw [hx]; rfl) (by decide) ?_
    refine aw_iload_n dX9_isShuffle_116 rfl ?_
    refine aw_ic dX9_isShuffle_117 ic_0 ?_
    refine aw_ic dX9_isShuffle_118 ic_1 ?_
    refine aw_iload_n dX9_isShuffle_119 rfl ?_
    refine aw_ic dX9_isShuffle_120 ic_1 ?_
    refine aw_isubN (by omega) dX9_isShuffle_121 ?_
    refine aw_ishl dX9_isShuffle_122 ?_
    refine aw_top (show ((nI (1)) <<< ((nI (n - 1)) &&& 31)) = (nI (2 ^ (n - 1))) from n_shl1 (n - 1) (by omega)) ?_
    have hp : 1 ≤ 2 ^ (n - 1) ∧ 2 ^ (n - 1) ≤ 2 ^ 16 := ⟨Nat.one_le_two_pow, Nat.pow_le_pow_right (by decide) (by omega)⟩
    refine aw_ic dX9_isShuffle_123 ic_1 ?_
    refine aw_isubN (by omega) dX9_isShuffle_124 ?_
    refine aw_callSR (As := [.int (y), .int (nI (0)), .int (nI ((2 ^ (n - 1)) - 1))]) (rest := []) (c_X9_is G y (nI 0) (nI (2 ^ (n - 1) - 1))) kX9_is w_754 rfl rfl (Nat.le_of_ble_eq_true rfl) dX9_isShuffle_125 ⟨Nat.le_of_ble_eq_true rfl, Nat.le_of_ble_eq_true rfl⟩ ⟨Nat.le_of_ble_eq_true rfl, Nat.le_of_ble_eq_true rfl⟩ ?_
    exact aw_zreturn dX9_isShuffle_128 rfl (bI_nar (decide ((nI 0).toInt ≤ y.toInt ∧ y.toInt ≤ (nI (2 ^ (n - 1) - 1)).toInt))) ⟨r_i (congrArg bI (by have t1 : (nI (2 ^ (n - 1) - 1)).toInt = ((2 ^ (n - 1) - 1 : Nat) : Int) := nI_toInt (by omega); have t0 : (nI 0).toInt = 0 := (by decide); rw [t0, t1]; unfold isO; rw [hx]; exact decide_eq_decide.mpr (by omega))), rfl, rfl⟩ (Nat.le_of_ble_eq_true rfl) (Nat.le_of_ble_eq_true rfl)
