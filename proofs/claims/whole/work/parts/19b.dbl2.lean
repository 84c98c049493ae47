set_option maxHeartbeats 4000000 in
set_option maxRecDepth 20000 in
/-- chance -/
theorem p_X6_chance (G : aG) {h : aH} {nx q c : Nat} {σ : aSg} (hH : HallAt h q σ) (hσ : sgOk c σ) (hc9 : c ≤ 512) (x k : Int32) : aMet G mX6_chance 12 1 6 [.ref (q), .int (x), .int (k)] h nx (hPo h q nx (sChance σ x k)) := by
  have h4 := hσ.1
  have h5 := hσ.2.1
  refine aMet_of rfl (Nat.le_of_ble_eq_true rfl) ?_
  show aw G mX6_chance [] (aRoom 12 1 6) (aEnd G (hPo h q nx (sChance σ x k)) 1 6) 0 0 h nx 0 [(0, .ref (q)), (1, .int (x)), (2, .int (k))] []
  have hHc := hH
  obtain ⟨e1, e2, e3, ⟨z1, e4⟩, ⟨z2, e5⟩, ⟨z3, e6⟩, e7, e8⟩ := hHc
  refine aw_aload_n dX6_chance_0 rfl ?_
  refine aw_iload_n dX6_chance_1 rfl ?_
  by_cases hx : inD σ x = true
  rotate_left
  · skip
    have hs : sChance σ x k = (.inr xIOB, σ) := by unfold sChance; rw [if_neg hx]
    exact aw_callVT (As := [.int (x)]) (rest := []) (t_X6_needDeck G hH x h4 (bf hx)) kX6_needDeck w_250 e1 rfl rfl rfl rfl (Nat.le_of_ble_eq_true rfl) dX6_chance_2 ⟨Nat.le_of_ble_eq_true rfl, Nat.le_of_ble_eq_true rfl⟩ ⟨Nat.le_of_ble_eq_true rfl, Nat.le_of_ble_eq_true rfl⟩ (Nat.le_of_ble_eq_true rfl) (Nat.le_of_ble_eq_true rfl) (fun n1 hn1 => hPo_of hs hn1 aOff.rf hH)
  obtain ⟨i, hxi, rfl⟩ := in_of hx (by omega)
  have hxd := hσ.2.2.2.1 i hxi
  have hxD := e7 i (by omega)
  obtain ⟨⟨l, ps, sc⟩, hxq⟩ : ∃ d, d = σ.1.getD i dk0 := ⟨_, rfl⟩
  rw [← hxq] at hxd hxD
  have hxI : dkI σ (nI i) = (l, ps, sc) := (dkI_i (by omega)).trans hxq.symm
  simp only [dkOk] at hxd
  obtain ⟨hxn, hxc, hxa, hxp, hxp4, hxs⟩ := hxd
  have hxD : DeckAt h (q + 12 + 45 * i) l ps sc := hxD
  refine aw_callVR (As := [.int (nI (i))]) (rest := []) (c_X6_needDeck G hH hxi h4) kX6_needDeck w_250 e1 rfl rfl rfl rfl (Nat.le_of_ble_eq_true rfl) dX6_chance_2 ⟨Nat.le_of_ble_eq_true rfl, Nat.le_of_ble_eq_true rfl⟩ ⟨Nat.le_of_ble_eq_true rfl, Nat.le_of_ble_eq_true rfl⟩ ?_
  refine aw_callVR (As := []) (rest := []) (c_X1_row G hxD) kX1_row w_214 hxD.1 rfl rfl rfl rfl (Nat.le_of_ble_eq_true rfl) dX6_chance_5 ⟨Nat.le_of_ble_eq_true rfl, Nat.le_of_ble_eq_true rfl⟩ ⟨Nat.le_of_ble_eq_true rfl, Nat.le_of_ble_eq_true rfl⟩ ?_
  have hxR := hxD.2.1
  obtain ⟨u_1f, u_1g, u_11, u_12, u_13, u_1l, u_1v⟩ := hxR
  refine aw_astore_n (L' := [(3, .ref (q + 12 + 45 * i + 1)), (0, .ref (q)), (1, .int (nI (i))), (2, .int (k))]) dX6_chance_8 (by decide) rfl ?_
  refine aw_iload_n dX6_chance_9 rfl ?_
  refine aw_ic dX6_chance_10 ic_0 ?_
  refine aw_bp (v := 12) dX6_chance_11 (by decide) ?_
  refine aw_callSR (As := [.int (k), .int (nI (0)), .int (nI (12))]) (rest := []) (c_X6_isWithin G k (nI 0) (nI 12)) kX6_isWithin w_131 rfl rfl (Nat.le_of_ble_eq_true rfl) dX6_chance_13 ⟨Nat.le_of_ble_eq_true rfl, Nat.le_of_ble_eq_true rfl⟩ ⟨Nat.le_of_ble_eq_true rfl, Nat.le_of_ble_eq_true rfl⟩ ?_
  have hk : decide ((nI 0).toInt ≤ k.toInt ∧ k.toInt ≤ (nI 12).toInt) = wIn k 0 12 := by rw [show (nI 0).toInt = 0 by decide, show (nI 12).toInt = 12 by decide]; rfl
  rw [hk]
  refine aw_if_neB (tgt := 29) dX6_chance_16 (by decide) (fun hw => ?_) (fun hw => ?_)
  · skip
    obtain ⟨u, -, hu, rfl⟩ := wIn_nat (a := 0) (b := 12) hw (by omega)
    refine aw_ic dX6_chance_29 ic_1 ?_
    refine aw_iload_n dX6_chance_30 rfl ?_
    refine aw_ishl dX6_chance_31 ?_
    refine aw_top (show ((nI (1)) <<< ((nI (u)) &&& 31)) = (nI (2 ^ u)) from n_shl1 u (by omega)) ?_
    have hp9 : 1 ≤ 2 ^ u ∧ 2 ^ u ≤ 2 ^ 12 := ⟨Nat.one_le_two_pow, Nat.pow_le_pow_right (by decide) hu⟩
    refine aw_istore (L' := [(4, .int (nI (2 ^ u))), (3, .ref (q + 12 + 45 * i + 1)), (0, .ref (q)), (1, .int (nI (i))), (2, .int (nI (u)))]) dX6_chance_32 (by decide) rfl ?_
    refine aw_aload_n dX6_chance_34 rfl ?_
    have hr16 := runs_le (l := l) (n := l.length)
    have hr1 : 0 < runs l l.length := by unfold runs; omega
    refine aw_callSR (As := [.ref (q + 12 + 45 * i + 1)]) (rest := []) (c_X2_risingRuns G hxD.2.1 hxc hxn.2 hxa (by omega)) kX2_risingRuns w_300 rfl rfl (Nat.le_of_ble_eq_true rfl) dX6_chance_35 ⟨Nat.le_of_ble_eq_true rfl, Nat.le_of_ble_eq_true rfl⟩ ⟨Nat.le_of_ble_eq_true rfl, Nat.le_of_ble_eq_true rfl⟩ ?_
    refine aw_istore (L' := [(5, .int (nI (runs l l.length))), (4, .int (nI (2 ^ u))), (3, .ref (q + 12 + 45 * i + 1)), (0, .ref (q)), (1, .int (nI (i))), (2, .int (nI (u)))]) dX6_chance_38 (by decide) rfl ?_
    refine aw_iload dX6_chance_40 rfl ?_
    refine aw_iload dX6_chance_42 rfl ?_
    refine aw_icmp_geN (tgt := 49) (by omega) (by omega) dX6_chance_44 (by decide) (fun c1 => ?_) (fun c1 => ?_)
    · skip
      refine aw_dconst1 dX6_chance_49 ?_
      refine aw_dstore (L' := [(6, .double (FP.dconst1)), (5, .int (nI (runs l l.length))), (4, .int (nI (2 ^ u))), (3, .ref (q + 12 + 45 * i + 1)), (0, .ref (q)), (1, .int (nI (i))), (2, .int (nI (u)))]) dX6_chance_50 (by decide) rfl ?_
      refine aw_ic dX6_chance_52 ic_1 ?_
      refine aw_istore (L' := [(8, .int (nI (1))), (6, .double (FP.dconst1)), (5, .int (nI (runs l l.length))), (4, .int (nI (2 ^ u))), (3, .ref (q + 12 + 45 * i + 1)), (0, .ref (q)), (1, .int (nI (i))), (2, .int (nI (u)))]) dX6_chance_53 (by decide) rfl ?_
      have K : ∀ (d : Nat) (j : Nat) (z : UInt64), l.length - j < d → (j ≤ l.length) → (z = chF (2 ^ u) (runs l l.length) j) → aw G mX6_chance [] (aRoom 12 1 6) (aEnd G (hPo h q nx (sChance σ (nI i) (nI u))) 1 6) 0 0 h nx 55 [(0, .ref (q)), (1, .int (nI (i))), (2, .int (nI (u))), (3, .ref (q + 12 + 45 * i + 1)), (4, .int (nI (2 ^ u))), (5, .int (nI (runs l l.length))), (6, .double (z)), (8, .int (nI (j + 1)))] [] := by
        intro d
        induction d with
        | zero => intro j z hMd; exact absurd hMd (Nat.not_lt_zero _)
        | succ d ih =>
          intro j z hMd hj hz
          refine aw_iload dX6_chance_55 rfl ?_
          refine aw_aload_n dX6_chance_57 rfl ?_
          refine aw_callVR (As := []) (rest := [.int (nI (j + 1))]) (c_X3_size G hxD.2.1) kX3_size w_218 u_11 rfl rfl rfl rfl (Nat.le_of_ble_eq_true rfl) dX6_chance_58 ⟨Nat.le_of_ble_eq_true rfl, Nat.le_of_ble_eq_true rfl⟩ ⟨Nat.le_of_ble_eq_true rfl, Nat.le_of_ble_eq_true rfl⟩ ?_
          refine aw_icmp_gtN (tgt := 100) (by omega) (by omega) dX6_chance_61 (by decide) (fun c2 => ?_) (fun c2 => ?_)
          · skip
            have e9 : j = l.length := by omega
            refine aw_dload dX6_chance_100 rfl ?_
            have hs : sChance σ (nI i) (nI u) = (.inl (some (.double (z))), σ) := by unfold sChance; rw [if_pos hx, hxI, if_pos hw, nI_nat (by omega)]; show rD (chV l u) σ = _; unfold chV; rw [if_neg (by omega), hz, e9]
            exact aw_dreturn dX6_chance_102 rfl (hPo_of hs (Nat.le_refl _) aOff.rf hH) (Nat.le_of_ble_eq_true rfl) (Nat.le_of_ble_eq_true rfl)
          · skip
            have hne := ch_ok hu hr1 (by omega) (show runs l l.length ≤ 2 ^ u by omega) (show j < l.length by omega) hxn.2
            rw [← hz] at hne
            refine aw_dload dX6_chance_64 rfl ?_
            refine aw_iload dX6_chance_66 rfl ?_
            refine aw_iload dX6_chance_68 rfl ?_
            refine aw_isubN (by omega) dX6_chance_70 ?_
            refine aw_iload dX6_chance_71 rfl ?_
            refine aw_iaddN dX6_chance_73 ?_
            refine aw_i2d dX6_chance_74 ?_
            refine aw_dmul dX6_chance_75 hne.1 ?_
            refine aw_to ?_ rfl (show ([.double (FP.dmul z (FP.i2d ((nI (((2 ^ u) - (runs l l.length)) + (j + 1))))))] : List Value) = ([.double (ch1 (2 ^ u) (runs l l.length) j z)] : List Value) from rfl) rfl
            refine aw_dstore (L' := [(6, .double (ch1 (2 ^ u) (runs l l.length) j z)), (0, .ref (q)), (1, .int (nI (i))), (2, .int (nI (u))), (3, .ref (q + 12 + 45 * i + 1)), (4, .int (nI (2 ^ u))), (5, .int (nI (runs l l.length))), (8, .int (nI (j + 1)))]) dX6_chance_76 (by decide) rfl ?_
            refine aw_dload dX6_chance_78 rfl ?_
            refine aw_iload dX6_chance_80 rfl ?_
            refine aw_i2d dX6_chance_82 ?_
            refine aw_ddiv dX6_chance_83 hne.2.1 ?_
            refine aw_to ?_ rfl (show ([.double (FP.ddiv (ch1 (2 ^ u) (runs l l.length) j z) (FP.i2d ((nI (j + 1)))))] : List Value) = ([.double (ch2 (2 ^ u) (runs l l.length) j z)] : List Value) from rfl) rfl
            refine aw_dstore (L' := [(6, .double (ch2 (2 ^ u) (runs l l.length) j z)), (0, .ref (q)), (1, .int (nI (i))), (2, .int (nI (u))), (3, .ref (q + 12 + 45 * i + 1)), (4, .int (nI (2 ^ u))), (5, .int (nI (runs l l.length))), (8, .int (nI (j + 1)))]) dX6_chance_84 (by decide) rfl ?_
            refine aw_dload dX6_chance_86 rfl ?_
            refine aw_iload dX6_chance_88 rfl ?_
            refine aw_i2d dX6_chance_90 ?_
            refine aw_ddiv dX6_chance_91 hne.2.2 ?_
            refine aw_to ?_ rfl (show ([.double (FP.ddiv (ch2 (2 ^ u) (runs l l.length) j z) (FP.i2d ((nI (2 ^ u)))))] : List Value) = ([.double (ch3 (2 ^ u) (runs l l.length) j z)] : List Value) from rfl) rfl
            refine aw_dstore (L' := [(6, .double (ch3 (2 ^ u) (runs l l.length) j z)), (0, .ref (q)), (1, .int (nI (i))), (2, .int (nI (u))), (3, .ref (q + 12 + 45 * i + 1)), (4, .int (nI (2 ^ u))), (5, .int (nI (runs l l.length))), (8, .int (nI (j + 1)))]) dX6_chance_92 (by decide) rfl ?_
            refine aw_iincN (k := 1) (L' := [(8, .int (nI ((j + 1) + 1))), (6, .double (ch3 (2 ^ u) (runs l l.length) j z)), (0, .ref (q)), (1, .int (nI (i))), (2, .int (nI (u))), (3, .ref (q + 12 + 45 * i + 1)), (4, .int (nI (2 ^ u))), (5, .int (nI (runs l l.length)))]) dX6_chance_94 (by decide) rfl (by decide) rfl ?_
            refine aw_goto (tgt := 55) dX6_chance_97 (by decide) ?_
            refine aw_sub (L' := [(0, .ref (q)), (1, .int (nI (i))), (2, .int (nI (u))), (3, .ref (q + 12 + 45 * i + 1)), (4, .int (nI (2 ^ u))), (5, .int (nI (runs l l.length))), (6, .double (ch3 (2 ^ u) (runs l l.length) j z)), (8, .int (nI ((j + 1) + 1)))]) [2, 3, 4, 5, 6, 7, 1, 0] rfl ?_
            exact ih (j + 1) (ch3 (2 ^ u) (runs l l.length) j z) (by omega) (by omega) (by rw [hz]; rfl)
      refine aw_sub (L' := [(0, .ref (q)), (1, .int (nI (i))), (2, .int (nI (u))), (3, .ref (q + 12 + 45 * i + 1)), (4, .int (nI (2 ^ u))), (5, .int (nI (runs l l.length))), (6, .double (FP.dconst1)), (8, .int (nI (1)))]) [5, 6, 7, 4, 3, 2, 1, 0] rfl ?_
      exact K (l.length + 1) 0 FP.dconst1 (by omega) (by omega) rfl
    · skip
      refine aw_dconst0 dX6_chance_47 ?_
      have hs : sChance σ (nI i) (nI u) = (.inl (some (.double (FP.dconst0))), σ) := by unfold sChance; rw [if_pos hx, hxI, if_pos hw, nI_nat (by omega)]; show rD (chV l u) σ = _; unfold chV; rw [if_pos (by omega)]
      exact aw_dreturn dX6_chance_48 rfl (hPo_of hs (Nat.le_refl _) aOff.rf hH) (Nat.le_of_ble_eq_true rfl) (Nat.le_of_ble_eq_true rfl)
  · skip
    have hs : sChance σ (nI i) k = (.inr xIAE, σ) := by unfold sChance; rw [if_pos hx, if_neg (by rw [hw]; simp)]
    exact aw_throw (E := xIAE) (text := "riffles is not 0 to 12") (names := xNs) (by decide +kernel) xNs_fit w_134 w_12 (by decide +kernel) at_IAE dX6_chance_19 dX6_chance_22 dX6_chance_23 dX6_chance_25 dX6_chance_28 (fun x hx => absurd hx List.not_mem_nil) (by decide) (by decide) (Nat.le_of_ble_eq_true rfl) (Nat.le_of_ble_eq_true rfl) (fun n1 hn1 => hPo_of hs hn1 aOff.rf hH) (Nat.le_of_ble_eq_true rfl) (Nat.le_of_ble_eq_true rfl)
set_option maxHeartbeats 4000000 in
set_option maxRecDepth 20000 in
/-- far -/
theorem p_X6_far (G : aG) {h : aH} {nx q c : Nat} {σ : aSg} (hH : HallAt h q σ) (hσ : sgOk c σ) (hc9 : c ≤ 512) (x : Int32) : aMet G mX6_far 12 1 6 [.ref (q), .int (x)] h nx (hPo h q nx (sFar σ x)) := by
  have h4 := hσ.1
  have h5 := hσ.2.1
  refine aMet_of rfl (Nat.le_of_ble_eq_true rfl) ?_
  show aw G mX6_far [] (aRoom 12 1 6) (aEnd G (hPo h q nx (sFar σ x)) 1 6) 0 0 h nx 0 [(0, .ref (q)), (1, .int (x))] []
  have hHc := hH
  obtain ⟨e1, e2, e3, ⟨z1, e4⟩, ⟨z2, e5⟩, ⟨z3, e6⟩, e7, e8⟩ := hHc
  refine aw_aload_n dX6_far_0 rfl ?_
  refine aw_iload_n dX6_far_1 rfl ?_
  by_cases hx : inD σ x = true
  rotate_left
  · skip
    have hs : sFar σ x = (.inr xIOB, σ) := by unfold sFar; rw [if_neg hx]
    exact aw_callVT (As := [.int (x)]) (rest := []) (t_X6_needDeck G hH x h4 (bf hx)) kX6_needDeck w_250 e1 rfl rfl rfl rfl (Nat.le_of_ble_eq_true rfl) dX6_far_2 ⟨Nat.le_of_ble_eq_true rfl, Nat.le_of_ble_eq_true rfl⟩ ⟨Nat.le_of_ble_eq_true rfl, Nat.le_of_ble_eq_true rfl⟩ (Nat.le_of_ble_eq_true rfl) (Nat.le_of_ble_eq_true rfl) (fun n1 hn1 => hPo_of hs hn1 aOff.rf hH)
  obtain ⟨i, hxi, rfl⟩ := in_of hx (by omega)
  have hxd := hσ.2.2.2.1 i hxi
  have hxD := e7 i (by omega)
  obtain ⟨⟨l, ps, sc⟩, hxq⟩ : ∃ d, d = σ.1.getD i dk0 := ⟨_, rfl⟩
  rw [← hxq] at hxd hxD
  have hxI : dkI σ (nI i) = (l, ps, sc) := (dkI_i (by omega)).trans hxq.symm
  simp only [dkOk] at hxd
  obtain ⟨hxn, hxc, hxa, hxp, hxp4, hxs⟩ := hxd
  have hxD : DeckAt h (q + 12 + 45 * i) l ps sc := hxD
  refine aw_callVR (As := [.int (nI (i))]) (rest := []) (c_X6_needDeck G hH hxi h4) kX6_needDeck w_250 e1 rfl rfl rfl rfl (Nat.le_of_ble_eq_true rfl) dX6_far_2 ⟨Nat.le_of_ble_eq_true rfl, Nat.le_of_ble_eq_true rfl⟩ ⟨Nat.le_of_ble_eq_true rfl, Nat.le_of_ble_eq_true rfl⟩ ?_
  refine aw_callVR (As := []) (rest := []) (c_X1_row G hxD) kX1_row w_214 hxD.1 rfl rfl rfl rfl (Nat.le_of_ble_eq_true rfl) dX6_far_5 ⟨Nat.le_of_ble_eq_true rfl, Nat.le_of_ble_eq_true rfl⟩ ⟨Nat.le_of_ble_eq_true rfl, Nat.le_of_ble_eq_true rfl⟩ ?_
  have hxR := hxD.2.1
  obtain ⟨u_1f, u_1g, u_11, u_12, u_13, u_1l, u_1v⟩ := hxR
  refine aw_astore_n (L' := [(2, .ref (q + 12 + 45 * i + 1)), (0, .ref (q)), (1, .int (nI (i)))]) dX6_far_8 (by decide) rfl ?_
  refine aw_aload_n dX6_far_9 rfl ?_
  refine aw_callVR (As := []) (rest := []) (c_X3_size G hxD.2.1) kX3_size w_218 u_11 rfl rfl rfl rfl (Nat.le_of_ble_eq_true rfl) dX6_far_10 ⟨Nat.le_of_ble_eq_true rfl, Nat.le_of_ble_eq_true rfl⟩ ⟨Nat.le_of_ble_eq_true rfl, Nat.le_of_ble_eq_true rfl⟩ ?_
  refine aw_istore_n (L' := [(3, .int (nI (l.length))), (2, .ref (q + 12 + 45 * i + 1)), (0, .ref (q)), (1, .int (nI (i)))]) dX6_far_13 (by decide) rfl ?_
  refine aw_ic dX6_far_14 ic_0 ?_
  refine aw_istore (L' := [(4, .int (nI (0))), (3, .int (nI (l.length))), (2, .ref (q + 12 + 45 * i + 1)), (0, .ref (q)), (1, .int (nI (i)))]) dX6_far_15 (by decide) rfl ?_
  refine aw_ic dX6_far_17 ic_0 ?_
  refine aw_istore (L' := [(5, .int (nI (0))), (4, .int (nI (0))), (3, .int (nI (l.length))), (2, .ref (q + 12 + 45 * i + 1)), (0, .ref (q)), (1, .int (nI (i)))]) dX6_far_18 (by decide) rfl ?_
  have K : ∀ (d : Nat) (j t : Nat), l.length - j < d → (j ≤ l.length) → (t = sumA l j) → aw G mX6_far [] (aRoom 12 1 6) (aEnd G (hPo h q nx (sFar σ (nI i))) 1 6) 0 0 h nx 20 [(0, .ref (q)), (1, .int (nI (i))), (2, .ref (q + 12 + 45 * i + 1)), (3, .int (nI (l.length))), (4, .int (nI (t))), (5, .int (nI (j)))] [] := by
    intro d
    induction d with
    | zero => intro j t hMd; exact absurd hMd (Nat.not_lt_zero _)
    | succ d ih =>
      intro j t hMd hj ht
      have hsa := sumA_le hxc hxn.2 j hj
      refine aw_iload dX6_far_20 rfl ?_
      refine aw_iload_n dX6_far_22 rfl ?_
      refine aw_icmp_geN (tgt := 49) (by omega) (by omega) dX6_far_23 (by decide) (fun c1 => ?_) (fun c1 => ?_)
      · skip
        have e9 : j = l.length := by omega
        refine aw_iload dX6_far_49 rfl ?_
        refine aw_i2d dX6_far_51 ?_
        refine aw_iload_n dX6_far_52 rfl ?_
        refine aw_i2d dX6_far_53 ?_
        refine aw_ddiv dX6_far_54 (n64_of (far_all t (by omega) l.length (by omega) hxn.1)) ?_
        have hs : sFar σ (nI i) = (.inl (some (.double (FP.ddiv (FP.i2d (nI t)) (FP.i2d (nI l.length))))), σ) := by unfold sFar; rw [if_pos hx, hxI, ht, e9]; rfl
        exact aw_dreturn dX6_far_55 rfl (hPo_of hs (Nat.le_refl _) aOff.rf hH) (Nat.le_of_ble_eq_true rfl) (Nat.le_of_ble_eq_true rfl)
      · skip
        have hlt := hxc.lt (i := j) (by omega)
        refine aw_iload dX6_far_26 rfl ?_
        refine aw_iload dX6_far_28 rfl ?_
        refine aw_aload_n dX6_far_30 rfl ?_
        refine aw_iload dX6_far_31 rfl ?_
        refine aw_callVR (As := [.int (nI (j))]) (rest := [.int (nI (j)), .int (nI (t))]) (c_X3_numberAt G hxD.2.1 (i := j) (by omega) (by omega)) kX3_numberAt w_350 u_11 rfl rfl rfl rfl (Nat.le_of_ble_eq_true rfl) dX6_far_33 ⟨Nat.le_of_ble_eq_true rfl, Nat.le_of_ble_eq_true rfl⟩ ⟨Nat.le_of_ble_eq_true rfl, Nat.le_of_ble_eq_true rfl⟩ ?_
        refine aw_isub dX6_far_36 ?_
        refine aw_mabs w_657 w_658 w_16 w_659 (Nat.le_of_ble_eq_true rfl) (Nat.le_of_ble_eq_true rfl) (Nat.le_of_ble_eq_true rfl) (Nat.le_of_ble_eq_true rfl) dX6_far_37 ?_
        refine aw_top (show (if 0 ≤ nI j - nI (l.getD j 0 / 2) then nI j - nI (l.getD j 0 / 2) else 0 - (nI j - nI (l.getD j 0 / 2))) = (nI (adf j (l.getD j 0 / 2))) from adf_all j (by omega) _ (by omega)) ?_
        refine aw_iaddN dX6_far_40 ?_
        refine aw_istore (L' := [(4, .int (nI (t + (adf j (l.getD j 0 / 2))))), (0, .ref (q)), (1, .int (nI (i))), (2, .ref (q + 12 + 45 * i + 1)), (3, .int (nI (l.length))), (5, .int (nI (j)))]) dX6_far_41 (by decide) rfl ?_
        refine aw_iincN (k := 1) (L' := [(5, .int (nI (j + 1))), (4, .int (nI (t + (adf j (l.getD j 0 / 2))))), (0, .ref (q)), (1, .int (nI (i))), (2, .ref (q + 12 + 45 * i + 1)), (3, .int (nI (l.length)))]) dX6_far_43 (by decide) rfl (by decide) rfl ?_
        refine aw_goto (tgt := 20) dX6_far_46 (by decide) ?_
        refine aw_sub (L' := [(0, .ref (q)), (1, .int (nI (i))), (2, .ref (q + 12 + 45 * i + 1)), (3, .int (nI (l.length))), (4, .int (nI (t + (adf j (l.getD j 0 / 2))))), (5, .int (nI (j + 1)))]) [2, 3, 4, 5, 1, 0] rfl ?_
        exact ih (j + 1) (t + adf j (l.getD j 0 / 2)) (by omega) (by omega) (by rw [ht]; rfl)
  refine aw_sub (L' := [(0, .ref (q)), (1, .int (nI (i))), (2, .ref (q + 12 + 45 * i + 1)), (3, .int (nI (l.length))), (4, .int (nI (0))), (5, .int (nI (0)))]) [4, 5, 3, 2, 1, 0] rfl ?_
  exact K (l.length + 1) 0 0 (by omega) (by omega) rfl
