set_option maxHeartbeats 4000000 in
set_option maxRecDepth 20000 in
/-- behindOutOrIn -/
theorem c_X6_behindOutOrIn (G : aG) {h : aH} {nx m half : Nat} (hm : m < 2 ^ 16) (hh : half ≤ 8) : aMet G mX6_behindOutOrIn 0 0 0 [.int (nI (m)), .int (nI (half))] h nx (pI (nI (btF m half half)) h nx) := by
  refine aMet_of rfl (Nat.le_of_ble_eq_true rfl) ?_
  show aw G mX6_behindOutOrIn [] (aRoom 0 0 0) (aEnd G (pI (nI (btF m half half)) h nx) 0 0) 0 0 h nx 0 [(0, .int (nI (m))), (1, .int (nI (half)))] []
  refine aw_ic dX6_behindOutOrIn_0 ic_0 ?_
  refine aw_istore_n (L' := [(2, .int (nI (0))), (0, .int (nI (m))), (1, .int (nI (half)))]) dX6_behindOutOrIn_1 (by decide) rfl ?_
  refine aw_ic dX6_behindOutOrIn_2 ic_0 ?_
  refine aw_istore_n (L' := [(3, .int (nI (0))), (2, .int (nI (0))), (0, .int (nI (m))), (1, .int (nI (half)))]) dX6_behindOutOrIn_3 (by decide) rfl ?_
  have K : ∀ (d : Nat) (q t : Nat), half - q < d → (q ≤ half) → (t = btF m half q) → aw G mX6_behindOutOrIn [] (aRoom 0 0 0) (aEnd G (pI (nI (btF m half half)) h nx) 0 0) 0 0 h nx 4 [(0, .int (nI (m))), (1, .int (nI (half))), (2, .int (nI (t))), (3, .int (nI (q)))] [] := by
    intro d
    induction d with
    | zero => intro q t hMd; exact absurd hMd (Nat.not_lt_zero _)
    | succ d ih =>
      intro q t hMd hq ht
      refine aw_iload_n dX6_behindOutOrIn_4 rfl ?_
      refine aw_iload_n dX6_behindOutOrIn_5 rfl ?_
      refine aw_icmp_geN (tgt := 41) (by omega) (by omega) dX6_behindOutOrIn_6 (by decide) (fun c1 => ?_) (fun c1 => ?_)
      · skip
        have e9 : q = half := by omega
        subst e9
        refine aw_iload_n dX6_behindOutOrIn_41 rfl ?_
        exact aw_ireturn dX6_behindOutOrIn_42 rfl ⟨r_n ht, rfl, rfl⟩ (Nat.le_of_ble_eq_true rfl) (Nat.le_of_ble_eq_true rfl)
      · skip
        refine aw_ic dX6_behindOutOrIn_9 ic_1 ?_
        refine aw_iload_n dX6_behindOutOrIn_10 rfl ?_
        refine aw_ishl dX6_behindOutOrIn_11 ?_
        refine aw_top (show ((nI (1)) <<< ((nI (q)) &&& 31)) = (nI (2 ^ q)) from n_shl1 q (by omega)) ?_
        refine aw_ic dX6_behindOutOrIn_12 ic_1 ?_
        refine aw_iload_n dX6_behindOutOrIn_13 rfl ?_
        refine aw_iload_n dX6_behindOutOrIn_14 rfl ?_
        refine aw_iaddN dX6_behindOutOrIn_15 ?_
        refine aw_ishl dX6_behindOutOrIn_16 ?_
        refine aw_top (show ((nI (1)) <<< ((nI (half + q)) &&& 31)) = (nI (2 ^ (half + q))) from n_shl1 (half + q) (by omega)) ?_
        refine aw_ior dX6_behindOutOrIn_17 ?_
        refine aw_top (show ((nI (2 ^ q)) ||| (nI (2 ^ (half + q)))) = (nI (2 ^ q ||| 2 ^ (half + q))) from n_or _ _) ?_
        refine aw_istore (L' := [(4, .int (nI (2 ^ q ||| 2 ^ (half + q)))), (0, .int (nI (m))), (1, .int (nI (half))), (2, .int (nI (t))), (3, .int (nI (q)))]) dX6_behindOutOrIn_18 (by decide) rfl ?_
        refine aw_iload_n dX6_behindOutOrIn_20 rfl ?_
        refine aw_iload dX6_behindOutOrIn_21 rfl ?_
        refine aw_iand dX6_behindOutOrIn_23 ?_
        refine aw_top (show ((nI (m)) &&& (nI (2 ^ q ||| 2 ^ (half + q)))) = (nI (m &&& (2 ^ q ||| 2 ^ (half + q)))) from n_and _ _) ?_
        have hz2 : m &&& (2 ^ q ||| 2 ^ (half + q)) < 2 ^ 16 := Nat.lt_of_le_of_lt Nat.and_le_left hm
        obtain ⟨z, hz⟩ : ∃ z, z = m &&& (2 ^ q ||| 2 ^ (half + q)) := ⟨_, rfl⟩
        rw [← hz] at hz2 ⊢
        refine aw_if_eqN (tgt := 35) (by omega) dX6_behindOutOrIn_24 (by decide) (fun c2 => ?_) (fun c2 => ?_)
        · skip
          refine aw_iincN (k := 1) (L' := [(3, .int (nI (q + 1))), (4, .int (nI (2 ^ q ||| 2 ^ (half + q)))), (0, .int (nI (m))), (1, .int (nI (half))), (2, .int (nI (t)))]) dX6_behindOutOrIn_35 (by decide) rfl (by decide) rfl ?_
          refine aw_goto (tgt := 4) dX6_behindOutOrIn_38 (by decide) ?_
          refine aw_sub (L' := [(0, .int (nI (m))), (1, .int (nI (half))), (2, .int (nI (t))), (3, .int (nI (q + 1)))]) [2, 3, 4, 0] rfl ?_
          exact ih (q + 1) t (by omega) (by omega) (by rw [ht]; simp only [btF]; rw [if_pos (by rw [← hz]; exact c2)])
        · skip
          have hp : 2 ^ (2 * q) ≤ 2 ^ 14 := Nat.pow_le_pow_right (by decide) (by omega)
          refine aw_iload_n dX6_behindOutOrIn_27 rfl ?_
          refine aw_ic dX6_behindOutOrIn_28 ic_3 ?_
          refine aw_ic dX6_behindOutOrIn_29 ic_2 ?_
          refine aw_iload_n dX6_behindOutOrIn_30 rfl ?_
          refine aw_imulN dX6_behindOutOrIn_31 ?_
          refine aw_ishl dX6_behindOutOrIn_32 ?_
          refine aw_top (show ((nI (3)) <<< ((nI (2 * q)) &&& 31)) = (nI (3 * 2 ^ (2 * q))) from n_shl (2 * q) (by omega) (by omega)) ?_
          refine aw_ior dX6_behindOutOrIn_33 ?_
          refine aw_top (show ((nI (t)) ||| (nI (3 * 2 ^ (2 * q)))) = (nI (t ||| 3 * 2 ^ (2 * q))) from n_or _ _) ?_
          refine aw_istore_n (L' := [(2, .int (nI (t ||| 3 * 2 ^ (2 * q)))), (4, .int (nI (2 ^ q ||| 2 ^ (half + q)))), (0, .int (nI (m))), (1, .int (nI (half))), (3, .int (nI (q)))]) dX6_behindOutOrIn_34 (by decide) rfl ?_
          refine aw_iincN (k := 1) (L' := [(3, .int (nI (q + 1))), (2, .int (nI (t ||| 3 * 2 ^ (2 * q)))), (4, .int (nI (2 ^ q ||| 2 ^ (half + q)))), (0, .int (nI (m))), (1, .int (nI (half)))]) dX6_behindOutOrIn_35 (by decide) rfl (by decide) rfl ?_
          refine aw_goto (tgt := 4) dX6_behindOutOrIn_38 (by decide) ?_
          refine aw_sub (L' := [(0, .int (nI (m))), (1, .int (nI (half))), (2, .int (nI (t ||| 3 * 2 ^ (2 * q)))), (3, .int (nI (q + 1)))]) [3, 4, 1, 0] rfl ?_
          exact ih (q + 1) (t ||| 3 * 2 ^ (2 * q)) (by omega) (by omega) (by rw [ht]; simp only [btF]; rw [if_neg (show ¬ m &&& (2 ^ q ||| 2 ^ (half + q)) = 0 by rw [← hz]; omega)])
  refine aw_sub (L' := [(0, .int (nI (m))), (1, .int (nI (half))), (2, .int (nI (0))), (3, .int (nI (0)))]) [2, 3, 1, 0] rfl ?_
  exact K (half + 1) 0 0 (by omega) (by omega) rfl
set_option maxHeartbeats 4000000 in
set_option maxRecDepth 20000 in
/-- toTop, asked rightly -/
theorem c_X6_toTop (G : aG) {h : aH} {nx q c : Nat} {σ : aSg} (hH : HallAt h q σ) (hσ : sgOk c σ) (hc9 : c ≤ 512) {i : Nat} {l : List Nat} {ps : List (List Nat)} {sc : Nat} (hxi : i < σ.1.length) (hdd : σ.1.getD i dk0 = (l, ps, sc)) {j : Nat} (hpi : j < l.length) : aMet G mX6_toTop 12 0 0 [.ref (q), .int (nI (i)), .int (nI (j))] h nx (pQ (fun v h1 n1 => v = some (.int (toT l j)) ∧ n1 = nx ∧ aOff h h1 q 204 ∧ HallAt h1 q σ)) := by
  have h4 := hσ.1
  have h5 := hσ.2.1
  refine aMet_of rfl (Nat.le_of_ble_eq_true rfl) ?_
  show aw G mX6_toTop [] (aRoom 12 0 0) (aEnd G (pQ (fun v h1 n1 => v = some (.int (toT l j)) ∧ n1 = nx ∧ aOff h h1 q 204 ∧ HallAt h1 q σ)) 0 0) 0 0 h nx 0 [(0, .ref (q)), (1, .int (nI (i))), (2, .int (nI (j)))] []
  have hHc := hH
  obtain ⟨e1, e2, e3, ⟨z1, e4⟩, ⟨z2, e5⟩, ⟨z3, e6⟩, e7, e8⟩ := hHc
  refine aw_aload_n dX6_toTop_0 rfl ?_
  refine aw_iload_n dX6_toTop_1 rfl ?_
  have hxd := hσ.2.2.2.1 i hxi
  have hxD := e7 i (by omega)
  rw [hdd] at hxd hxD
  simp only [dkOk] at hxd
  obtain ⟨hxn, hxc, hxa, hxp, hxp4, hxs⟩ := hxd
  have hxD : DeckAt h (q + 12 + 45 * i) l ps sc := hxD
  refine aw_callVR (As := [.int (nI (i))]) (rest := []) (c_X6_needDeck G hH hxi h4) kX6_needDeck w_250 e1 rfl rfl rfl rfl (Nat.le_of_ble_eq_true rfl) dX6_toTop_2 ⟨Nat.le_of_ble_eq_true rfl, Nat.le_of_ble_eq_true rfl⟩ ⟨Nat.le_of_ble_eq_true rfl, Nat.le_of_ble_eq_true rfl⟩ ?_
  refine aw_callVR (As := []) (rest := []) (c_X1_row G hxD) kX1_row w_214 hxD.1 rfl rfl rfl rfl (Nat.le_of_ble_eq_true rfl) dX6_toTop_5 ⟨Nat.le_of_ble_eq_true rfl, Nat.le_of_ble_eq_true rfl⟩ ⟨Nat.le_of_ble_eq_true rfl, Nat.le_of_ble_eq_true rfl⟩ ?_
  have hxR := hxD.2.1
  obtain ⟨u_1f, u_1g, u_11, u_12, u_13, u_1l, u_1v⟩ := hxR
  refine aw_astore_n (L' := [(3, .ref (q + 12 + 45 * i + 1)), (0, .ref (q)), (1, .int (nI (i))), (2, .int (nI (j)))]) dX6_toTop_8 (by decide) rfl ?_
  refine aw_aload_n dX6_toTop_9 rfl ?_
  refine aw_iload_n dX6_toTop_10 rfl ?_
  have hp := inP_i hpi hxn.2
  refine aw_callSR (As := [.ref (q + 12 + 45 * i + 1), .int (nI (j))]) (rest := []) (c_X6_needPosition G hxD.2.1 hp) kX6_needPosition w_345 rfl rfl (Nat.le_of_ble_eq_true rfl) dX6_toTop_11 ⟨Nat.le_of_ble_eq_true rfl, Nat.le_of_ble_eq_true rfl⟩ ⟨Nat.le_of_ble_eq_true rfl, Nat.le_of_ble_eq_true rfl⟩ ?_
  refine aw_aload_n dX6_toTop_14 rfl ?_
  refine aw_callVR (As := []) (rest := []) (c_X3_size G hxD.2.1) kX3_size w_218 u_11 rfl rfl rfl rfl (Nat.le_of_ble_eq_true rfl) dX6_toTop_15 ⟨Nat.le_of_ble_eq_true rfl, Nat.le_of_ble_eq_true rfl⟩ ⟨Nat.le_of_ble_eq_true rfl, Nat.le_of_ble_eq_true rfl⟩ ?_
  refine aw_istore (L' := [(4, .int (nI (l.length))), (3, .ref (q + 12 + 45 * i + 1)), (0, .ref (q)), (1, .int (nI (i))), (2, .int (nI (j)))]) dX6_toTop_18 (by decide) rfl ?_
  refine aw_iload dX6_toTop_20 rfl ?_
  refine aw_ic dX6_toTop_22 ic_2 ?_
  refine aw_iremN (by omega) (by omega) (by omega) dX6_toTop_23 ?_
  have hm2 := Nat.mod_lt l.length (show 0 < 2 by decide)
  refine aw_if_eqN (tgt := 29) (by omega) dX6_toTop_24 (by decide) (fun c1 => ?_) (fun c1 => ?_)
  · skip
    have hT : ttF (l.length / 2) (l.length + 1) 0 (2 ^ j) = toT l j := by unfold toT; rw [if_neg (by omega)]
    refine aw_ic dX6_toTop_29 ic_1 ?_
    refine aw_iload_n dX6_toTop_30 rfl ?_
    refine aw_ishl dX6_toTop_31 ?_
    refine aw_top (show ((nI (1)) <<< ((nI (j)) &&& 31)) = (nI (2 ^ j)) from n_shl1 j (by omega)) ?_
    refine aw_istore (L' := [(5, .int (nI (2 ^ j))), (4, .int (nI (l.length))), (3, .ref (q + 12 + 45 * i + 1)), (0, .ref (q)), (1, .int (nI (i))), (2, .int (nI (j)))]) dX6_toTop_32 (by decide) rfl ?_
    refine aw_ic dX6_toTop_34 ic_0 ?_
    refine aw_istore (L' := [(6, .int (nI (0))), (5, .int (nI (2 ^ j))), (4, .int (nI (l.length))), (3, .ref (q + 12 + 45 * i + 1)), (0, .ref (q)), (1, .int (nI (i))), (2, .int (nI (j)))]) dX6_toTop_35 (by decide) rfl ?_
    have K : ∀ (d : Nat) (t m : Nat), l.length + 1 - t < d → (t ≤ l.length + 1) → (m < 2 ^ 16) → (ttF (l.length / 2) (l.length + 1 - t) t m = toT l j) → aw G mX6_toTop [] (aRoom 12 0 0) (aEnd G (pQ (fun v h1 n1 => v = some (.int (toT l j)) ∧ n1 = nx ∧ aOff h h1 q 204 ∧ HallAt h1 q σ)) 0 0) 0 0 h nx 37 [(0, .ref (q)), (1, .int (nI (i))), (2, .int (nI (j))), (3, .ref (q + 12 + 45 * i + 1)), (4, .int (nI (l.length))), (5, .int (nI (m))), (6, .int (nI (t)))] [] := by
      intro d
      induction d with
      | zero => intro t m hMd; exact absurd hMd (Nat.not_lt_zero _)
      | succ d ih =>
        intro t m hMd ht hm hE
        refine aw_iload dX6_toTop_37 rfl ?_
        refine aw_iload dX6_toTop_39 rfl ?_
        refine aw_icmp_gtN (tgt := 71) (by omega) (by omega) dX6_toTop_41 (by decide) (fun c2 => ?_) (fun c2 => ?_)
        · skip
          have hE2 : -1 = toT l j := by rw [show l.length + 1 - t = 0 by omega] at hE; exact hE
          refine aw_iconst dX6_toTop_71 ic_m1 ?_
          exact aw_ireturn dX6_toTop_72 rfl ⟨_, rfl, by rw [← hE2], rfl, aOff.rf, hH⟩ (Nat.le_of_ble_eq_true rfl) (Nat.le_of_ble_eq_true rfl)
        · skip
          obtain ⟨f, hf⟩ : ∃ f, l.length + 1 - t = f + 1 := ⟨l.length - t, by omega⟩
          rw [hf] at hE
          unfold ttF at hE
          have hmm := Nat.mod_lt m (show 0 < 2 by decide)
          refine aw_iload dX6_toTop_44 rfl ?_
          refine aw_ic dX6_toTop_46 ic_1 ?_
          refine aw_iand dX6_toTop_47 ?_
          refine aw_top (show ((nI (m)) &&& (nI (1))) = (nI (m % 2)) from n_odd (by omega)) ?_
          refine aw_if_eqN (tgt := 54) (by omega) dX6_toTop_48 (by decide) (fun c3 => ?_) (fun c3 => ?_)
          · skip
            rw [if_neg (by omega)] at hE
            refine aw_iload dX6_toTop_54 rfl ?_
            refine aw_iload dX6_toTop_56 rfl ?_
            refine aw_ic dX6_toTop_58 ic_2 ?_
            refine aw_idivN (by omega) (by omega) (by omega) dX6_toTop_59 ?_
            refine aw_callSR (As := [.int (nI (m)), .int (nI (l.length / 2))]) (rest := []) (c_X6_behindOutOrIn G hm (by omega)) kX6_behindOutOrIn w_362 rfl rfl (Nat.le_of_ble_eq_true rfl) dX6_toTop_60 ⟨Nat.le_of_ble_eq_true rfl, Nat.le_of_ble_eq_true rfl⟩ ⟨Nat.le_of_ble_eq_true rfl, Nat.le_of_ble_eq_true rfl⟩ ?_
            refine aw_istore (L' := [(5, .int (nI (btF m (l.length / 2) (l.length / 2)))), (0, .ref (q)), (1, .int (nI (i))), (2, .int (nI (j))), (3, .ref (q + 12 + 45 * i + 1)), (4, .int (nI (l.length))), (6, .int (nI (t)))]) dX6_toTop_63 (by decide) rfl ?_
            refine aw_iincN (k := 1) (L' := [(6, .int (nI (t + 1))), (5, .int (nI (btF m (l.length / 2) (l.length / 2)))), (0, .ref (q)), (1, .int (nI (i))), (2, .int (nI (j))), (3, .ref (q + 12 + 45 * i + 1)), (4, .int (nI (l.length)))]) dX6_toTop_65 (by decide) rfl (by decide) rfl ?_
            refine aw_goto (tgt := 37) dX6_toTop_68 (by decide) ?_
            have hb1 := btF_lt (m := m) (half := l.length / 2) (l.length / 2)
            have hb2 : 2 ^ (2 * (l.length / 2)) ≤ 2 ^ 16 := Nat.pow_le_pow_right (by decide) (by omega)
            refine aw_sub (L' := [(0, .ref (q)), (1, .int (nI (i))), (2, .int (nI (j))), (3, .ref (q + 12 + 45 * i + 1)), (4, .int (nI (l.length))), (5, .int (nI (btF m (l.length / 2) (l.length / 2)))), (6, .int (nI (t + 1)))]) [2, 3, 4, 5, 6, 1, 0] rfl ?_
            exact ih (t + 1) (btF m (l.length / 2) (l.length / 2)) (by omega) (by omega) (by omega) (by rw [show l.length + 1 - (t + 1) = f by omega]; exact hE)
          · skip
            rw [if_pos (by omega)] at hE
            refine aw_iload dX6_toTop_51 rfl ?_
            exact aw_ireturn dX6_toTop_53 rfl ⟨_, rfl, by rw [← hE], rfl, aOff.rf, hH⟩ (Nat.le_of_ble_eq_true rfl) (Nat.le_of_ble_eq_true rfl)
    refine aw_sub (L' := [(0, .ref (q)), (1, .int (nI (i))), (2, .int (nI (j))), (3, .ref (q + 12 + 45 * i + 1)), (4, .int (nI (l.length))), (5, .int (nI (2 ^ j))), (6, .int (nI (0)))]) [4, 5, 6, 3, 2, 1, 0] rfl ?_
    have hj2 : 2 ^ j < 2 ^ 16 := Nat.pow_lt_pow_right (by decide) (by omega)
    exact K (l.length + 2) 0 (2 ^ j) (by omega) (by omega) hj2 hT
  · skip
    refine aw_iconst dX6_toTop_27 ic_m1 ?_
    exact aw_ireturn dX6_toTop_28 rfl ⟨_, rfl, by unfold toT; rw [if_pos (by omega)], rfl, aOff.rf, hH⟩ (Nat.le_of_ble_eq_true rfl) (Nat.le_of_ble_eq_true rfl)
set_option maxHeartbeats 4000000 in
set_option maxRecDepth 20000 in
/-- toTop -/
theorem p_X6_toTop (G : aG) {h : aH} {nx q c : Nat} {σ : aSg} (hH : HallAt h q σ) (hσ : sgOk c σ) (hc9 : c ≤ 512) (x p : Int32) : aMet G mX6_toTop 12 1 6 [.ref (q), .int (x), .int (p)] h nx (hPo h q nx (sToTop σ x p)) := by
  have h4 := hσ.1
  have h5 := hσ.2.1
  refine aMet_of rfl (Nat.le_of_ble_eq_true rfl) ?_
  show aw G mX6_toTop [] (aRoom 12 1 6) (aEnd G (hPo h q nx (sToTop σ x p)) 1 6) 0 0 h nx 0 [(0, .ref (q)), (1, .int (x)), (2, .int (p))] []
  have hHc := hH
  obtain ⟨e1, e2, e3, ⟨z1, e4⟩, ⟨z2, e5⟩, ⟨z3, e6⟩, e7, e8⟩ := hHc
  refine aw_aload_n dX6_toTop_0 rfl ?_
  refine aw_iload_n dX6_toTop_1 rfl ?_
  by_cases hx : inD σ x = true
  rotate_left
  · skip
    have hs : sToTop σ x p = (.inr xIOB, σ) := by unfold sToTop; rw [if_neg hx]
    exact aw_callVT (As := [.int (x)]) (rest := []) (t_X6_needDeck G hH x h4 (bf hx)) kX6_needDeck w_250 e1 rfl rfl rfl rfl (Nat.le_of_ble_eq_true rfl) dX6_toTop_2 ⟨Nat.le_of_ble_eq_true rfl, Nat.le_of_ble_eq_true rfl⟩ ⟨Nat.le_of_ble_eq_true rfl, Nat.le_of_ble_eq_true rfl⟩ (Nat.le_of_ble_eq_true rfl) (Nat.le_of_ble_eq_true rfl) (fun n1 hn1 => hPo_of hs hn1 aOff.rf hH)
  obtain ⟨i, hxi, rfl⟩ := in_of hx (by omega)
  have hxd := hσ.2.2.2.1 i hxi
  have hxD := e7 i (by omega)
  obtain ⟨⟨l, ps, sc⟩, hxq⟩ : ∃ d, d = σ.1.getD i dk0 := ⟨_, rfl⟩
  rw [← hxq] at hxd hxD
  have hxI : dkI σ (nI i) = (l, ps, sc) := (dkI_i (by omega)).trans hxq.symm
  simp only [dkOk] at hxd
  obtain ⟨hxn, hxc, hxa, hxp, hxp4, hxs⟩ := hxd
  have hxD : DeckAt h (q + 12 + 45 * i) l ps sc := hxD
  refine aw_callVR (As := [.int (nI (i))]) (rest := []) (c_X6_needDeck G hH hxi h4) kX6_needDeck w_250 e1 rfl rfl rfl rfl (Nat.le_of_ble_eq_true rfl) dX6_toTop_2 ⟨Nat.le_of_ble_eq_true rfl, Nat.le_of_ble_eq_true rfl⟩ ⟨Nat.le_of_ble_eq_true rfl, Nat.le_of_ble_eq_true rfl⟩ ?_
  refine aw_callVR (As := []) (rest := []) (c_X1_row G hxD) kX1_row w_214 hxD.1 rfl rfl rfl rfl (Nat.le_of_ble_eq_true rfl) dX6_toTop_5 ⟨Nat.le_of_ble_eq_true rfl, Nat.le_of_ble_eq_true rfl⟩ ⟨Nat.le_of_ble_eq_true rfl, Nat.le_of_ble_eq_true rfl⟩ ?_
  have hxR := hxD.2.1
  obtain ⟨u_1f, u_1g, u_11, u_12, u_13, u_1l, u_1v⟩ := hxR
  refine aw_astore_n (L' := [(3, .ref (q + 12 + 45 * i + 1)), (0, .ref (q)), (1, .int (nI (i))), (2, .int (p))]) dX6_toTop_8 (by decide) rfl ?_
  refine aw_aload_n dX6_toTop_9 rfl ?_
  refine aw_iload_n dX6_toTop_10 rfl ?_
  by_cases hp : inP l p = true
  rotate_left
  · skip
    have hs : sToTop σ (nI i) p = (.inr xIOB, σ) := by unfold sToTop; rw [if_pos hx, hxI]; exact if_neg hp
    exact aw_callST (As := [.ref (q + 12 + 45 * i + 1), .int (p)]) (rest := []) (t_X6_needPosition G hxD.2.1 (bf hp)) kX6_needPosition w_345 rfl rfl (Nat.le_of_ble_eq_true rfl) dX6_toTop_11 ⟨Nat.le_of_ble_eq_true rfl, Nat.le_of_ble_eq_true rfl⟩ ⟨Nat.le_of_ble_eq_true rfl, Nat.le_of_ble_eq_true rfl⟩ (Nat.le_of_ble_eq_true rfl) (Nat.le_of_ble_eq_true rfl) (fun n1 hn1 => hPo_of hs hn1 aOff.rf hH)
  refine aw_callSR (As := [.ref (q + 12 + 45 * i + 1), .int (p)]) (rest := []) (c_X6_needPosition G hxD.2.1 hp) kX6_needPosition w_345 rfl rfl (Nat.le_of_ble_eq_true rfl) dX6_toTop_11 ⟨Nat.le_of_ble_eq_true rfl, Nat.le_of_ble_eq_true rfl⟩ ⟨Nat.le_of_ble_eq_true rfl, Nat.le_of_ble_eq_true rfl⟩ ?_
  obtain ⟨j, hpi, rfl⟩ := inP_nat hp hxn.2
  refine aw_aload_n dX6_toTop_14 rfl ?_
  refine aw_callVR (As := []) (rest := []) (c_X3_size G hxD.2.1) kX3_size w_218 u_11 rfl rfl rfl rfl (Nat.le_of_ble_eq_true rfl) dX6_toTop_15 ⟨Nat.le_of_ble_eq_true rfl, Nat.le_of_ble_eq_true rfl⟩ ⟨Nat.le_of_ble_eq_true rfl, Nat.le_of_ble_eq_true rfl⟩ ?_
  refine aw_istore (L' := [(4, .int (nI (l.length))), (3, .ref (q + 12 + 45 * i + 1)), (0, .ref (q)), (1, .int (nI (i))), (2, .int (nI (j)))]) dX6_toTop_18 (by decide) rfl ?_
  refine aw_iload dX6_toTop_20 rfl ?_
  refine aw_ic dX6_toTop_22 ic_2 ?_
  refine aw_iremN (by omega) (by omega) (by omega) dX6_toTop_23 ?_
  have hm2 := Nat.mod_lt l.length (show 0 < 2 by decide)
  refine aw_if_eqN (tgt := 29) (by omega) dX6_toTop_24 (by decide) (fun c1 => ?_) (fun c1 => ?_)
  · skip
    have hT : ttF (l.length / 2) (l.length + 1) 0 (2 ^ j) = toT l j := by unfold toT; rw [if_neg (by omega)]
    refine aw_ic dX6_toTop_29 ic_1 ?_
    refine aw_iload_n dX6_toTop_30 rfl ?_
    refine aw_ishl dX6_toTop_31 ?_
    refine aw_top (show ((nI (1)) <<< ((nI (j)) &&& 31)) = (nI (2 ^ j)) from n_shl1 j (by omega)) ?_
    refine aw_istore (L' := [(5, .int (nI (2 ^ j))), (4, .int (nI (l.length))), (3, .ref (q + 12 + 45 * i + 1)), (0, .ref (q)), (1, .int (nI (i))), (2, .int (nI (j)))]) dX6_toTop_32 (by decide) rfl ?_
    refine aw_ic dX6_toTop_34 ic_0 ?_
    refine aw_istore (L' := [(6, .int (nI (0))), (5, .int (nI (2 ^ j))), (4, .int (nI (l.length))), (3, .ref (q + 12 + 45 * i + 1)), (0, .ref (q)), (1, .int (nI (i))), (2, .int (nI (j)))]) dX6_toTop_35 (by decide) rfl ?_
    have K : ∀ (d : Nat) (t m : Nat), l.length + 1 - t < d → (t ≤ l.length + 1) → (m < 2 ^ 16) → (ttF (l.length / 2) (l.length + 1 - t) t m = toT l j) → aw G mX6_toTop [] (aRoom 12 1 6) (aEnd G (hPo h q nx (sToTop σ (nI i) (nI j))) 1 6) 0 0 h nx 37 [(0, .ref (q)), (1, .int (nI (i))), (2, .int (nI (j))), (3, .ref (q + 12 + 45 * i + 1)), (4, .int (nI (l.length))), (5, .int (nI (m))), (6, .int (nI (t)))] [] := by
      intro d
      induction d with
      | zero => intro t m hMd; exact absurd hMd (Nat.not_lt_zero _)
      | succ d ih =>
        intro t m hMd ht hm hE
        refine aw_iload dX6_toTop_37 rfl ?_
        refine aw_iload dX6_toTop_39 rfl ?_
        refine aw_icmp_gtN (tgt := 71) (by omega) (by omega) dX6_toTop_41 (by decide) (fun c2 => ?_) (fun c2 => ?_)
        · skip
          have hE2 : -1 = toT l j := by rw [show l.length + 1 - t = 0 by omega] at hE; exact hE
          refine aw_iconst dX6_toTop_71 ic_m1 ?_
          have hs : sToTop σ (nI i) (nI j) = (.inl (some (.int (-1))), σ) := by unfold sToTop; rw [if_pos hx, hxI, if_pos hp, nI_nat (by omega)]; rw [← hE2]
          exact aw_ireturn dX6_toTop_72 rfl (hPo_of hs (Nat.le_refl _) aOff.rf hH) (Nat.le_of_ble_eq_true rfl) (Nat.le_of_ble_eq_true rfl)
        · skip
          obtain ⟨f, hf⟩ : ∃ f, l.length + 1 - t = f + 1 := ⟨l.length - t, by omega⟩
          rw [hf] at hE
          unfold ttF at hE
          have hmm := Nat.mod_lt m (show 0 < 2 by decide)
          refine aw_iload dX6_toTop_44 rfl ?_
          refine aw_ic dX6_toTop_46 ic_1 ?_
          refine aw_iand dX6_toTop_47 ?_
          refine aw_top (show ((nI (m)) &&& (nI (1))) = (nI (m % 2)) from n_odd (by omega)) ?_
          refine aw_if_eqN (tgt := 54) (by omega) dX6_toTop_48 (by decide) (fun c3 => ?_) (fun c3 => ?_)
          · skip
            rw [if_neg (by omega)] at hE
            refine aw_iload dX6_toTop_54 rfl ?_
            refine aw_iload dX6_toTop_56 rfl ?_
            refine aw_ic dX6_toTop_58 ic_2 ?_
            refine aw_idivN (by omega) (by omega) (by omega) dX6_toTop_59 ?_
            refine aw_callSR (As := [.int (nI (m)), .int (nI (l.length / 2))]) (rest := []) (c_X6_behindOutOrIn G hm (by omega)) kX6_behindOutOrIn w_362 rfl rfl (Nat.le_of_ble_eq_true rfl) dX6_toTop_60 ⟨Nat.le_of_ble_eq_true rfl, Nat.le_of_ble_eq_true rfl⟩ ⟨Nat.le_of_ble_eq_true rfl, Nat.le_of_ble_eq_true rfl⟩ ?_
            refine aw_istore (L' := [(5, .int (nI (btF m (l.length / 2) (l.length / 2)))), (0, .ref (q)), (1, .int (nI (i))), (2, .int (nI (j))), (3, .ref (q + 12 + 45 * i + 1)), (4, .int (nI (l.length))), (6, .int (nI (t)))]) dX6_toTop_63 (by decide) rfl ?_
            refine aw_iincN (k := 1) (L' := [(6, .int (nI (t + 1))), (5, .int (nI (btF m (l.length / 2) (l.length / 2)))), (0, .ref (q)), (1, .int (nI (i))), (2, .int (nI (j))), (3, .ref (q + 12 + 45 * i + 1)), (4, .int (nI (l.length)))]) dX6_toTop_65 (by decide) rfl (by decide) rfl ?_
            refine aw_goto (tgt := 37) dX6_toTop_68 (by decide) ?_
            have hb1 := btF_lt (m := m) (half := l.length / 2) (l.length / 2)
            have hb2 : 2 ^ (2 * (l.length / 2)) ≤ 2 ^ 16 := Nat.pow_le_pow_right (by decide) (by omega)
            refine aw_sub (L' := [(0, .ref (q)), (1, .int (nI (i))), (2, .int (nI (j))), (3, .ref (q + 12 + 45 * i + 1)), (4, .int (nI (l.length))), (5, .int (nI (btF m (l.length / 2) (l.length / 2)))), (6, .int (nI (t + 1)))]) [2, 3, 4, 5, 6, 1, 0] rfl ?_
            exact ih (t + 1) (btF m (l.length / 2) (l.length / 2)) (by omega) (by omega) (by omega) (by rw [show l.length + 1 - (t + 1) = f by omega]; exact hE)
          · skip
            rw [if_pos (by omega)] at hE
            refine aw_iload dX6_toTop_51 rfl ?_
            have hs : sToTop σ (nI i) (nI j) = (.inl (some (.int (nI t))), σ) := by unfold sToTop; rw [if_pos hx, hxI, if_pos hp, nI_nat (by omega)]; rw [← hE]
            exact aw_ireturn dX6_toTop_53 rfl (hPo_of hs (Nat.le_refl _) aOff.rf hH) (Nat.le_of_ble_eq_true rfl) (Nat.le_of_ble_eq_true rfl)
    refine aw_sub (L' := [(0, .ref (q)), (1, .int (nI (i))), (2, .int (nI (j))), (3, .ref (q + 12 + 45 * i + 1)), (4, .int (nI (l.length))), (5, .int (nI (2 ^ j))), (6, .int (nI (0)))]) [4, 5, 6, 3, 2, 1, 0] rfl ?_
    have hj2 : 2 ^ j < 2 ^ 16 := Nat.pow_lt_pow_right (by decide) (by omega)
    exact K (l.length + 2) 0 (2 ^ j) (by omega) (by omega) hj2 hT
  · skip
    refine aw_iconst dX6_toTop_27 ic_m1 ?_
    have hs : sToTop σ (nI i) (nI j) = (.inl (some (.int (-1))), σ) := by unfold sToTop; rw [if_pos hx, hxI, if_pos hp, nI_nat (by omega)]; show rI (toT l j) σ = _; unfold toT; rw [if_pos (by omega)]
    exact aw_ireturn dX6_toTop_28 rfl (hPo_of hs (Nat.le_refl _) aOff.rf hH) (Nat.le_of_ble_eq_true rfl) (Nat.le_of_ble_eq_true rfl)
set_option maxHeartbeats 4000000 in
set_option maxRecDepth 20000 in
/-- goes -/
theorem p_X6_goes (G : aG) {h : aH} {nx q c : Nat} {σ : aSg} (hH : HallAt h q σ) (hσ : sgOk c σ) (hc9 : c ≤ 512) (x p k m : Int32) : aMet G mX6_goes 12 1 6 [.ref (q), .int (x), .int (p), .int (k), .int (m)] h nx (hPo h q nx (sGoes σ x p k m)) := by
  have h4 := hσ.1
  have h5 := hσ.2.1
  refine aMet_of rfl (Nat.le_of_ble_eq_true rfl) ?_
  show aw G mX6_goes [] (aRoom 12 1 6) (aEnd G (hPo h q nx (sGoes σ x p k m)) 1 6) 0 0 h nx 0 [(0, .ref (q)), (1, .int (x)), (2, .int (p)), (3, .int (k)), (4, .int (m))] []
  have hHc := hH
  obtain ⟨e1, e2, e3, ⟨z1, e4⟩, ⟨z2, e5⟩, ⟨z3, e6⟩, e7, e8⟩ := hHc
  refine aw_aload_n dX6_goes_0 rfl ?_
  refine aw_iload_n dX6_goes_1 rfl ?_
  by_cases hx : inD σ x = true
  rotate_left
  · skip
    have hs : sGoes σ x p k m = (.inr xIOB, σ) := by unfold sGoes; rw [if_neg hx]
    exact aw_callVT (As := [.int (x)]) (rest := []) (t_X6_needDeck G hH x h4 (bf hx)) kX6_needDeck w_250 e1 rfl rfl rfl rfl (Nat.le_of_ble_eq_true rfl) dX6_goes_2 ⟨Nat.le_of_ble_eq_true rfl, Nat.le_of_ble_eq_true rfl⟩ ⟨Nat.le_of_ble_eq_true rfl, Nat.le_of_ble_eq_true rfl⟩ (Nat.le_of_ble_eq_true rfl) (Nat.le_of_ble_eq_true rfl) (fun n1 hn1 => hPo_of hs hn1 aOff.rf hH)
  obtain ⟨i, hxi, rfl⟩ := in_of hx (by omega)
  have hxd := hσ.2.2.2.1 i hxi
  have hxD := e7 i (by omega)
  obtain ⟨⟨l, ps, sc⟩, hxq⟩ : ∃ d, d = σ.1.getD i dk0 := ⟨_, rfl⟩
  rw [← hxq] at hxd hxD
  have hxI : dkI σ (nI i) = (l, ps, sc) := (dkI_i (by omega)).trans hxq.symm
  simp only [dkOk] at hxd
  obtain ⟨hxn, hxc, hxa, hxp, hxp4, hxs⟩ := hxd
  have hxD : DeckAt h (q + 12 + 45 * i) l ps sc := hxD
  refine aw_callVR (As := [.int (nI (i))]) (rest := []) (c_X6_needDeck G hH hxi h4) kX6_needDeck w_250 e1 rfl rfl rfl rfl (Nat.le_of_ble_eq_true rfl) dX6_goes_2 ⟨Nat.le_of_ble_eq_true rfl, Nat.le_of_ble_eq_true rfl⟩ ⟨Nat.le_of_ble_eq_true rfl, Nat.le_of_ble_eq_true rfl⟩ ?_
  refine aw_callVR (As := []) (rest := []) (c_X1_row G hxD) kX1_row w_214 hxD.1 rfl rfl rfl rfl (Nat.le_of_ble_eq_true rfl) dX6_goes_5 ⟨Nat.le_of_ble_eq_true rfl, Nat.le_of_ble_eq_true rfl⟩ ⟨Nat.le_of_ble_eq_true rfl, Nat.le_of_ble_eq_true rfl⟩ ?_
  have hxR := hxD.2.1
  obtain ⟨u_1f, u_1g, u_11, u_12, u_13, u_1l, u_1v⟩ := hxR
  refine aw_astore (L' := [(5, .ref (q + 12 + 45 * i + 1)), (0, .ref (q)), (1, .int (nI (i))), (2, .int (p)), (3, .int (k)), (4, .int (m))]) dX6_goes_8 (by decide) rfl ?_
  refine aw_aload dX6_goes_10 rfl ?_
  refine aw_iload_n dX6_goes_12 rfl ?_
  by_cases hp : inP l p = true
  rotate_left
  · skip
    have hs : sGoes σ (nI i) p k m = (.inr xIOB, σ) := by unfold sGoes; rw [if_pos hx, hxI]; exact if_neg hp
    exact aw_callST (As := [.ref (q + 12 + 45 * i + 1), .int (p)]) (rest := []) (t_X6_needPosition G hxD.2.1 (bf hp)) kX6_needPosition w_345 rfl rfl (Nat.le_of_ble_eq_true rfl) dX6_goes_13 ⟨Nat.le_of_ble_eq_true rfl, Nat.le_of_ble_eq_true rfl⟩ ⟨Nat.le_of_ble_eq_true rfl, Nat.le_of_ble_eq_true rfl⟩ (Nat.le_of_ble_eq_true rfl) (Nat.le_of_ble_eq_true rfl) (fun n1 hn1 => hPo_of hs hn1 aOff.rf hH)
  refine aw_callSR (As := [.ref (q + 12 + 45 * i + 1), .int (p)]) (rest := []) (c_X6_needPosition G hxD.2.1 hp) kX6_needPosition w_345 rfl rfl (Nat.le_of_ble_eq_true rfl) dX6_goes_13 ⟨Nat.le_of_ble_eq_true rfl, Nat.le_of_ble_eq_true rfl⟩ ⟨Nat.le_of_ble_eq_true rfl, Nat.le_of_ble_eq_true rfl⟩ ?_
  obtain ⟨j, hpi, rfl⟩ := inP_nat hp hxn.2
  refine aw_aload_n dX6_goes_16 rfl ?_
  refine aw_get 5 e1 rfl rfl (by decide) w_99 rfl dX6_goes_17 ?_
  refine aw_iload_n dX6_goes_20 rfl ?_
  refine aw_iload dX6_goes_21 rfl ?_
  refine aw_aload dX6_goes_23 rfl ?_
  refine aw_callVR (As := []) (rest := [.int (m), .int (k), .ref (q + 3)]) (c_X3_size G hxD.2.1) kX3_size w_218 u_11 rfl rfl rfl rfl (Nat.le_of_ble_eq_true rfl) dX6_goes_25 ⟨Nat.le_of_ble_eq_true rfl, Nat.le_of_ble_eq_true rfl⟩ ⟨Nat.le_of_ble_eq_true rfl, Nat.le_of_ble_eq_true rfl⟩ ?_
  refine aw_callSQ (As := [.ref (q + 3), .int (k), .int (m), .int (nI (l.length))]) (rest := []) (c_X5_lay G k m e4 hxn) kX5_lay w_369 rfl rfl (Nat.le_of_ble_eq_true rfl) dX6_goes_28 ⟨Nat.le_of_ble_eq_true rfl, Nat.le_of_ble_eq_true rfl⟩ ⟨Nat.le_of_ble_eq_true rfl, Nat.le_of_ble_eq_true rfl⟩ (fun v_1 h_1 n_1 q_1 z_1 => ?_)
  obtain ⟨rfl, oL, ⟨hO, rfl, rfl⟩ | ⟨hO, rfl, hL⟩⟩ := q_1
  · skip
    refine aw_if_neB (tgt := 44) dX6_goes_31 (by decide) (fun c3 => absurd c3 (by decide)) (fun c3 => ?_)
    have hs : sGoes σ (nI i) (nI j) k m = (.inr xIAE, σ) := by unfold sGoes; rw [if_pos hx, hxI, if_pos hp, if_neg (by rw [hO]; simp)]
    exact aw_throw (E := xIAE) (text := "no shuffle for this deck") (names := xNs) (by decide +kernel) xNs_fit w_134 w_12 (by decide +kernel) at_IAE dX6_goes_34 dX6_goes_37 dX6_goes_38 dX6_goes_40 dX6_goes_43 (fun x hx => absurd hx List.not_mem_nil) (by decide) (by decide) (Nat.le_of_ble_eq_true rfl) (Nat.le_of_ble_eq_true rfl) (fun n1 hn1 => hPo_of hs hn1 aOff.rf hH) (Nat.le_of_ble_eq_true rfl) (Nat.le_of_ble_eq_true rfl)
  · skip
    refine aw_if_neB (tgt := 44) dX6_goes_31 (by decide) (fun c3 => ?_) (fun c3 => absurd c3 (by decide))
    have f_1 := (oL q (by omega)).trans e1
    refine aw_aload_n dX6_goes_44 rfl ?_
    refine aw_get 5 f_1 rfl rfl (by decide) w_99 rfl dX6_goes_45 ?_
    refine aw_iload_n dX6_goes_48 rfl ?_
    have hLc := hL
    obtain ⟨u_2f, u_2g, u_21, u_22, u_23, u_2l, u_2v⟩ := hLc
    refine aw_callVR (As := [.int (nI (j))]) (rest := []) (c_X3_placeOf G hL (lay_cOkI hO) hxn.2 (lay_cAllI hO j hpi)) kX3_placeOf w_356 u_21 rfl rfl rfl rfl (Nat.le_of_ble_eq_true rfl) dX6_goes_49 ⟨Nat.le_of_ble_eq_true rfl, Nat.le_of_ble_eq_true rfl⟩ ⟨Nat.le_of_ble_eq_true rfl, Nat.le_of_ble_eq_true rfl⟩ ?_
    have hs : sGoes σ (nI i) (nI j) k m = (.inl (some (.int (nI (ixOf (layL k.toInt.toNat m.toInt.toNat l.length) j)))), σ) := by unfold sGoes; rw [if_pos hx, hxI, if_pos hp, if_pos hO, nI_nat (by omega)]
    exact aw_ireturn dX6_goes_52 rfl (hPo_of hs (Nat.le_refl _) (fun a ha => oL a (by omega)) (hH.rows (fun a ha => oL a (by omega)) ⟨_, hL⟩ ⟨_, e5.off oL (by omega)⟩ ⟨_, e6.off oL (by omega)⟩)) (Nat.le_of_ble_eq_true rfl) (Nat.le_of_ble_eq_true rfl)
theorem invs_lx {l : List Nat} {n : Nat} (hn : n ≤ 16) : invs l n ≤ 256 := by
  have h1 : ∀ k, sm (fun k => ct (fun j => decide (k < j) && decide (cd l j < cd l k)) n) k ≤ k * n := by
    intro k
    induction k with
    | zero => simp [sm]
    | succ k ih =>
      have := ct_le (fun j => decide (k < j) && decide (cd l j < cd l k)) n
      simp only [sm, Nat.succ_mul]
      omega
  have h2 := h1 n
  have h3 : n * n ≤ 16 * 16 := Nat.mul_le_mul hn hn
  unfold invs
  omega
set_option maxHeartbeats 4000000 in
set_option maxRecDepth 20000 in
/-- best, asked rightly -/
theorem c_X6_best (G : aG) {h : aH} {nx q c : Nat} {σ : aSg} (hH : HallAt h q σ) (hσ : sgOk c σ) (hc9 : c ≤ 512) {i : Nat} {l : List Nat} {ps : List (List Nat)} {sc : Nat} (hxi : i < σ.1.length) (hdd : σ.1.getD i dk0 = (l, ps, sc))  : aMet G mX6_best 12 0 0 [.ref (q), .int (nI (i))] h nx (pQ (fun v h1 n1 => v = some (.int (bestV l)) ∧ n1 = nx ∧ aOff h h1 q 204 ∧ HallAt h1 q σ)) := by
  have h4 := hσ.1
  have h5 := hσ.2.1
  refine aMet_of rfl (Nat.le_of_ble_eq_true rfl) ?_
  show aw G mX6_best [] (aRoom 12 0 0) (aEnd G (pQ (fun v h1 n1 => v = some (.int (bestV l)) ∧ n1 = nx ∧ aOff h h1 q 204 ∧ HallAt h1 q σ)) 0 0) 0 0 h nx 0 [(0, .ref (q)), (1, .int (nI (i)))] []
  have hHc := hH
  obtain ⟨e1, e2, e3, ⟨z1, e4⟩, ⟨z2, e5⟩, ⟨z3, e6⟩, e7, e8⟩ := hHc
  refine aw_aload_n dX6_best_0 rfl ?_
  refine aw_iload_n dX6_best_1 rfl ?_
  have hxd := hσ.2.2.2.1 i hxi
  have hxD := e7 i (by omega)
  rw [hdd] at hxd hxD
  simp only [dkOk] at hxd
  obtain ⟨hxn, hxc, hxa, hxp, hxp4, hxs⟩ := hxd
  have hxD : DeckAt h (q + 12 + 45 * i) l ps sc := hxD
  refine aw_callVR (As := [.int (nI (i))]) (rest := []) (c_X6_needDeck G hH hxi h4) kX6_needDeck w_250 e1 rfl rfl rfl rfl (Nat.le_of_ble_eq_true rfl) dX6_best_2 ⟨Nat.le_of_ble_eq_true rfl, Nat.le_of_ble_eq_true rfl⟩ ⟨Nat.le_of_ble_eq_true rfl, Nat.le_of_ble_eq_true rfl⟩ ?_
  refine aw_callVR (As := []) (rest := []) (c_X1_row G hxD) kX1_row w_214 hxD.1 rfl rfl rfl rfl (Nat.le_of_ble_eq_true rfl) dX6_best_5 ⟨Nat.le_of_ble_eq_true rfl, Nat.le_of_ble_eq_true rfl⟩ ⟨Nat.le_of_ble_eq_true rfl, Nat.le_of_ble_eq_true rfl⟩ ?_
  have hxR := hxD.2.1
  obtain ⟨u_1f, u_1g, u_11, u_12, u_13, u_1l, u_1v⟩ := hxR
  refine aw_astore_n (L' := [(2, .ref (q + 12 + 45 * i + 1)), (0, .ref (q)), (1, .int (nI (i)))]) dX6_best_8 (by decide) rfl ?_
  refine aw_iconst dX6_best_9 ic_m1 ?_
  refine aw_istore_n (L' := [(3, .int (-1)), (2, .ref (q + 12 + 45 * i + 1)), (0, .ref (q)), (1, .int (nI (i)))]) dX6_best_10 (by decide) rfl ?_
  refine aw_ic dX6_best_11 ic_0 ?_
  refine aw_istore (L' := [(4, .int (nI (0))), (3, .int (-1)), (2, .ref (q + 12 + 45 * i + 1)), (0, .ref (q)), (1, .int (nI (i)))]) dX6_best_12 (by decide) rfl ?_
  refine aw_ic dX6_best_14 ic_1 ?_
  refine aw_istore (L' := [(5, .int (nI (1))), (4, .int (nI (0))), (3, .int (-1)), (2, .ref (q + 12 + 45 * i + 1)), (0, .ref (q)), (1, .int (nI (i)))]) dX6_best_15 (by decide) rfl ?_
  have K : ∀ (d : Nat) (k e : Nat) (z : Int32 × Nat) (h1 : aH), 5 - k < d → (k ≤ 5) → (z = bsK l k) → ((z.1 = -1 ∧ z.2 = 2147483647) ∨ (z.1 ≠ -1 ∧ e = z.2 ∧ z.2 < 2147483647)) → (e < 2147483647) → (∀ a, (a < q + 3 ∨ q + 12 ≤ a) → h1 a = h a) → (∃ z, RowAt h1 (q + 3) z) → (∃ z, RowAt h1 (q + 6) z) → (∃ z, RowAt h1 (q + 9) z) → aw G mX6_best [] (aRoom 12 0 0) (aEnd G (pQ (fun v h1 n1 => v = some (.int (bestV l)) ∧ n1 = nx ∧ aOff h h1 q 204 ∧ HallAt h1 q σ)) 0 0) 0 0 h1 nx 17 [(0, .ref (q)), (1, .int (nI (i))), (2, .ref (q + 12 + 45 * i + 1)), (3, .int (z.1)), (4, .int (nI (e))), (5, .int (nI (k + 1)))] [] := by
    intro d
    induction d with
    | zero => intro k e z h1 hMd; exact absurd hMd (Nat.not_lt_zero _)
    | succ d ih =>
      intro k e z h1 hMd hk hz he he2 o r1 r2 r3
      have e1n := (o q (by omega)).trans e1
      have hDn := hxD.keep (fun a g1 g2 => o a (by omega))
      have hRn := hDn.2.1
      obtain ⟨u_2f, u_2g, u_21, u_22, u_23, u_2l, u_2v⟩ := hRn
      refine aw_iload dX6_best_17 rfl ?_
      refine aw_ic dX6_best_19 ic_5 ?_
      refine aw_icmp_gtN (tgt := 107) (by omega) (by omega) dX6_best_20 (by decide) (fun c1 => ?_) (fun c1 => ?_)
      · skip
        have e9 : k = 5 := by omega
        subst e9
        refine aw_iload_n dX6_best_107 rfl ?_
        exact aw_ireturn dX6_best_108 rfl ⟨_, rfl, by rw [hz]; rfl, rfl, (fun a ha => o a (by omega)), (hH.rows o r1 r2 r3)⟩ (Nat.le_of_ble_eq_true rfl) (Nat.le_of_ble_eq_true rfl)
      · skip
        refine aw_iload dX6_best_23 rfl ?_
        refine aw_ic dX6_best_25 ic_5 ?_
        obtain ⟨kn, hkn⟩ : ∃ kn, kn = if k + 1 = 5 then 2 else 0 := ⟨_, rfl⟩
        have hkn2 : kn ≤ 2 := by rw [hkn]; split <;> omega
        have J : aw G mX6_best [] (aRoom 12 0 0) (aEnd G (pQ (fun v h1 n1 => v = some (.int (bestV l)) ∧ n1 = nx ∧ aOff h h1 q 204 ∧ HallAt h1 q σ)) 0 0) 0 0 h1 nx 34 [(0, .ref (q)), (1, .int (nI (i))), (2, .ref (q + 12 + 45 * i + 1)), (3, .int (z.1)), (4, .int (nI (e))), (5, .int (nI (k + 1)))] [.int (nI kn)] := by
          obtain ⟨z1, hr1⟩ := r1
          obtain ⟨z3, hr3⟩ := r3
          refine aw_istore (L' := [(6, .int (nI (kn))), (0, .ref (q)), (1, .int (nI (i))), (2, .ref (q + 12 + 45 * i + 1)), (3, .int (z.1)), (4, .int (nI (e))), (5, .int (nI (k + 1)))]) dX6_best_34 (by decide) rfl ?_
          refine aw_aload_n dX6_best_36 rfl ?_
          refine aw_get 5 e1n rfl rfl (by decide) w_99 rfl dX6_best_37 ?_
          refine aw_iload dX6_best_40 rfl ?_
          refine aw_iload dX6_best_42 rfl ?_
          refine aw_aload_n dX6_best_44 rfl ?_
          refine aw_callVR (As := []) (rest := [.int (nI (kn)), .int (nI (k + 1)), .ref (q + 3)]) (c_X3_size G hDn.2.1) kX3_size w_218 u_21 rfl rfl rfl rfl (Nat.le_of_ble_eq_true rfl) dX6_best_45 ⟨Nat.le_of_ble_eq_true rfl, Nat.le_of_ble_eq_true rfl⟩ ⟨Nat.le_of_ble_eq_true rfl, Nat.le_of_ble_eq_true rfl⟩ ?_
          have tk : (nI (k + 1)).toInt = ((k + 1 : Nat) : Int) := nI_toInt (by omega)
          have tm : (nI kn).toInt = (kn : Int) := nI_toInt (by omega)
          refine aw_callSQ (As := [.ref (q + 3), .int (nI (k + 1)), .int (nI (kn)), .int (nI (l.length))]) (rest := []) (c_X5_lay G (nI (k + 1)) (nI kn) hr1 hxn) kX5_lay w_369 rfl rfl (Nat.le_of_ble_eq_true rfl) dX6_best_48 ⟨Nat.le_of_ble_eq_true rfl, Nat.le_of_ble_eq_true rfl⟩ ⟨Nat.le_of_ble_eq_true rfl, Nat.le_of_ble_eq_true rfl⟩ (fun v_1 h_1 n_1 q_1 z_1 => ?_)
          rw [tk, tm] at q_1
          obtain ⟨rfl, oL, ⟨hO, rfl, rfl⟩ | ⟨hO, rfl, hL⟩⟩ := q_1
          · skip
            refine aw_if_eqB (tgt := 101) dX6_best_51 (by decide) (fun c3 => ?_) (fun c3 => absurd c3 (by decide))
            refine aw_iincN (k := 1) (L' := [(5, .int (nI ((k + 1) + 1))), (6, .int (nI (kn))), (0, .ref (q)), (1, .int (nI (i))), (2, .ref (q + 12 + 45 * i + 1)), (3, .int (z.1)), (4, .int (nI (e)))]) dX6_best_101 (by decide) rfl (by decide) rfl ?_
            refine aw_goto (tgt := 17) dX6_best_104 (by decide) ?_
            refine aw_sub (L' := [(0, .ref (q)), (1, .int (nI (i))), (2, .ref (q + 12 + 45 * i + 1)), (3, .int (z.1)), (4, .int (nI (e))), (5, .int (nI ((k + 1) + 1)))]) [2, 3, 4, 5, 6, 0] rfl ?_
            exact ih (k + 1) e z h_1 (by omega) (by omega) (by rw [hz]; show _ = bsS l (k + 1) _ (bsK l k); unfold bsS; rw [← hkn, if_neg (by rw [hO]; simp)]) he he2 o ⟨z1, hr1⟩ r2 ⟨z3, hr3⟩
          · skip
            refine aw_if_eqB (tgt := 101) dX6_best_51 (by decide) (fun c3 => absurd c3 (by decide)) (fun c3 => ?_)
            simp only [tk, tm, Int.toNat_natCast] at hL
            have e1m := (oL q (by omega)).trans e1n
            have hr3m := hr3.off oL (by omega)
            have hRm := (hDn.keep (fun a g1 g2 => oL a (by omega))).2.1
            have hr3c := hr3m
            obtain ⟨u_3f, u_3g, u_31, u_32, u_33, u_3l, u_3v⟩ := hr3c
            refine aw_aload_n dX6_best_54 rfl ?_
            refine aw_get 7 e1m rfl rfl (by decide) w_101 rfl dX6_best_55 ?_
            refine aw_aload_n dX6_best_58 rfl ?_
            refine aw_callVQ (As := [.ref (q + 12 + 45 * i + 1)]) (rest := []) (c_X3_copy G hr3m hRm (by omega)) kX3_copy w_424 u_31 rfl rfl rfl rfl (Nat.le_of_ble_eq_true rfl) dX6_best_59 ⟨Nat.le_of_ble_eq_true rfl, Nat.le_of_ble_eq_true rfl⟩ ⟨Nat.le_of_ble_eq_true rfl, Nat.le_of_ble_eq_true rfl⟩ (fun v_2 h_2 n_2 q_2 z_2 => ?_)
            obtain ⟨rfl, rfl, R_1, o_1⟩ := q_2
            have f_1 := (o_1 q (by omega)).trans e1m
            have R_1c := R_1
            obtain ⟨u_4f, u_4g, u_41, u_42, u_43, u_4l, u_4v⟩ := R_1c
            refine aw_aload_n dX6_best_62 rfl ?_
            refine aw_get 7 f_1 rfl rfl (by decide) w_101 rfl dX6_best_63 ?_
            refine aw_aload_n dX6_best_66 rfl ?_
            refine aw_get 5 f_1 rfl rfl (by decide) w_99 rfl dX6_best_67 ?_
            have hLm := hL.off o_1 (by omega)
            have hlc := lay_cOk hO
            refine aw_callVQ (As := [.ref (q + 3)]) (rest := []) (c_X3_follow G R_1 hLm hxc hlc hxn.2 (by omega)) kX3_follow w_431 u_41 rfl rfl rfl rfl (Nat.le_of_ble_eq_true rfl) dX6_best_70 ⟨Nat.le_of_ble_eq_true rfl, Nat.le_of_ble_eq_true rfl⟩ ⟨Nat.le_of_ble_eq_true rfl, Nat.le_of_ble_eq_true rfl⟩ (fun v_3 h_3 n_3 q_3 z_3 => ?_)
            obtain ⟨rfl, rfl, R_2, o_2⟩ := q_3
            have f_2 := (o_2 q (by omega)).trans f_1
            refine aw_aload_n dX6_best_73 rfl ?_
            refine aw_get 7 f_2 rfl rfl (by decide) w_101 rfl dX6_best_74 ?_
            have hfc := fol_cOk hxc hlc
            have hiv := invs_lx (l := fol l (layL (k + 1) kn l.length)) hxn.2
            refine aw_callSR (As := [.ref (q + 9)]) (rest := []) (c_X2_inversions G R_2 hfc hxn.2) kX2_inversions w_296 rfl rfl (Nat.le_of_ble_eq_true rfl) dX6_best_77 ⟨Nat.le_of_ble_eq_true rfl, Nat.le_of_ble_eq_true rfl⟩ ⟨Nat.le_of_ble_eq_true rfl, Nat.le_of_ble_eq_true rfl⟩ ?_
            obtain ⟨iv, hiv2⟩ : ∃ iv, iv = invs (fol l (layL (k + 1) kn l.length)) l.length := ⟨_, rfl⟩
            rw [← hiv2] at hiv ⊢
            refine aw_istore (L' := [(7, .int (nI (iv))), (6, .int (nI (kn))), (0, .ref (q)), (1, .int (nI (i))), (2, .ref (q + 12 + 45 * i + 1)), (3, .int (z.1)), (4, .int (nI (e))), (5, .int (nI (k + 1)))]) dX6_best_80 (by decide) rfl ?_
            refine aw_iload_n dX6_best_82 rfl ?_
            refine aw_iconst dX6_best_83 ic_m1 ?_
            have on : ∀ a, (a < q + 3 ∨ q + 12 ≤ a) → h_3 a = h a := fun a ha => (o_2 a (by omega)).trans ((o_1 a (by omega)).trans ((oL a (by omega)).trans (o a ha)))
            have S : (iv < z.2) → aw G mX6_best [] (aRoom 12 0 0) (aEnd G (pQ (fun v h1 n1 => v = some (.int (bestV l)) ∧ n1 = n_3 ∧ aOff h h1 q 204 ∧ HallAt h1 q σ)) 0 0) 0 0 h_3 n_3 94 [(7, .int (nI (iv))), (6, .int (nI (kn))), (0, .ref (q)), (1, .int (nI (i))), (2, .ref (q + 12 + 45 * i + 1)), (3, .int (z.1)), (4, .int (nI (e))), (5, .int (nI (k + 1)))] [] := by
              intro hlt
              refine aw_iload dX6_best_94 rfl ?_
              refine aw_istore (L' := [(4, .int (nI (iv))), (7, .int (nI (iv))), (6, .int (nI (kn))), (0, .ref (q)), (1, .int (nI (i))), (2, .ref (q + 12 + 45 * i + 1)), (3, .int (z.1)), (5, .int (nI (k + 1)))]) dX6_best_96 (by decide) rfl ?_
              refine aw_iload dX6_best_98 rfl ?_
              refine aw_istore_n (L' := [(3, .int (nI (k + 1))), (4, .int (nI (iv))), (7, .int (nI (iv))), (6, .int (nI (kn))), (0, .ref (q)), (1, .int (nI (i))), (2, .ref (q + 12 + 45 * i + 1)), (5, .int (nI (k + 1)))]) dX6_best_100 (by decide) rfl ?_
              refine aw_iincN (k := 1) (L' := [(5, .int (nI ((k + 1) + 1))), (3, .int (nI (k + 1))), (4, .int (nI (iv))), (7, .int (nI (iv))), (6, .int (nI (kn))), (0, .ref (q)), (1, .int (nI (i))), (2, .ref (q + 12 + 45 * i + 1))]) dX6_best_101 (by decide) rfl (by decide) rfl ?_
              refine aw_goto (tgt := 17) dX6_best_104 (by decide) ?_
              refine aw_sub (L' := [(0, .ref (q)), (1, .int (nI (i))), (2, .ref (q + 12 + 45 * i + 1)), (3, .int (nI (k + 1))), (4, .int (nI (iv))), (5, .int (nI ((k + 1) + 1)))]) [5, 6, 7, 1, 2, 0] rfl ?_
              exact ih (k + 1) iv (nI (k + 1), iv) h_3 (by omega) (by omega) (by show _ = bsS l (k + 1) _ (bsK l k); unfold bsS; rw [← hkn, if_pos hO, ← hiv2, ← hz, if_pos hlt]) (Or.inr ⟨(by intro q; have e1 := congrArg Int32.toInt q; rw [tk] at e1; rw [show (-1 : Int32).toInt = -1 from by decide] at e1; omega), rfl, by show iv < _; omega⟩) (by omega) on ⟨_, hLm.off o_2 (by omega)⟩ (by obtain ⟨z2, hr2⟩ := r2; exact ⟨z2, ((hr2.off oL (by omega)).off o_1 (by omega)).off o_2 (by omega)⟩) ⟨_, R_2⟩
            refine aw_icmp_eq (tgt := 94) dX6_best_84 (by decide) (fun c4 => ?_) (fun c4 => ?_)
            · skip
              exact S (by rcases he with ⟨_, q⟩ | ⟨q, _⟩; omega; exact absurd c4 q)
            · skip
              have he3 : e = z.2 := by rcases he with ⟨q, _⟩ | ⟨_, q, _⟩; exact absurd q c4; exact q
              refine aw_iload dX6_best_87 rfl ?_
              refine aw_iload dX6_best_89 rfl ?_
              refine aw_icmp_geN (tgt := 101) (by omega) (by omega) dX6_best_91 (by decide) (fun c5 => ?_) (fun c5 => ?_)
              · skip
                refine aw_iincN (k := 1) (L' := [(5, .int (nI ((k + 1) + 1))), (7, .int (nI (iv))), (6, .int (nI (kn))), (0, .ref (q)), (1, .int (nI (i))), (2, .ref (q + 12 + 45 * i + 1)), (3, .int (z.1)), (4, .int (nI (e)))]) dX6_best_101 (by decide) rfl (by decide) rfl ?_
                refine aw_goto (tgt := 17) dX6_best_104 (by decide) ?_
                refine aw_sub (L' := [(0, .ref (q)), (1, .int (nI (i))), (2, .ref (q + 12 + 45 * i + 1)), (3, .int (z.1)), (4, .int (nI (e))), (5, .int (nI ((k + 1) + 1)))]) [3, 4, 5, 6, 7, 0] rfl ?_
                exact ih (k + 1) e z h_3 (by omega) (by omega) (by show _ = bsS l (k + 1) _ (bsK l k); unfold bsS; rw [← hkn, if_pos hO, ← hiv2, ← hz, if_neg (by omega)]) he he2 on ⟨_, hLm.off o_2 (by omega)⟩ (by obtain ⟨z2, hr2⟩ := r2; exact ⟨z2, ((hr2.off oL (by omega)).off o_1 (by omega)).off o_2 (by omega)⟩) ⟨_, R_2⟩
              · skip
                exact S (by omega)
        refine aw_icmp_neN (tgt := 33) (by omega) (by omega) dX6_best_26 (by decide) (fun c2 => ?_) (fun c2 => ?_)
        · skip
          refine aw_ic dX6_best_33 ic_0 ?_
          rw [hkn, if_neg c2] at J
          exact J
        · skip
          refine aw_ic dX6_best_29 ic_2 ?_
          refine aw_goto (tgt := 34) dX6_best_30 (by decide) ?_
          rw [hkn, if_pos c2] at J
          exact J
  refine aw_sub (L' := [(0, .ref (q)), (1, .int (nI (i))), (2, .ref (q + 12 + 45 * i + 1)), (3, .int (-1)), (4, .int (nI (0))), (5, .int (nI (1)))]) [4, 5, 3, 2, 1, 0] rfl ?_
  exact K 6 0 0 (-1, 2147483647) h (by omega) (by omega) rfl (Or.inl ⟨rfl, rfl⟩) (by omega) (fun _ _ => rfl) ⟨_, e4⟩ ⟨_, e5⟩ ⟨_, e6⟩
set_option maxHeartbeats 4000000 in
set_option maxRecDepth 20000 in
/-- riffle, asked rightly -/
theorem c_X6_riffle (G : aG) {h : aH} {nx q c : Nat} {σ : aSg} (hH : HallAt h q σ) (hσ : sgOk c σ) (hc9 : c ≤ 512) {i : Nat} {l : List Nat} {ps : List (List Nat)} {sc : Nat} (hxi : i < σ.1.length) (hdd : σ.1.getD i dk0 = (l, ps, sc))  : aMet G mX6_riffle 12 0 0 [.ref (q), .int (nI (i))] h nx (pQ (fun v h1 n1 => v = some (.int (rifV l)) ∧ n1 = nx ∧ aOff h h1 q 204 ∧ HallAt h1 q σ)) := by
  have h4 := hσ.1
  have h5 := hσ.2.1
  refine aMet_of rfl (Nat.le_of_ble_eq_true rfl) ?_
  show aw G mX6_riffle [] (aRoom 12 0 0) (aEnd G (pQ (fun v h1 n1 => v = some (.int (rifV l)) ∧ n1 = nx ∧ aOff h h1 q 204 ∧ HallAt h1 q σ)) 0 0) 0 0 h nx 0 [(0, .ref (q)), (1, .int (nI (i)))] []
  have hHc := hH
  obtain ⟨e1, e2, e3, ⟨z1, e4⟩, ⟨z2, e5⟩, ⟨z3, e6⟩, e7, e8⟩ := hHc
  refine aw_aload_n dX6_riffle_0 rfl ?_
  refine aw_iload_n dX6_riffle_1 rfl ?_
  have hxd := hσ.2.2.2.1 i hxi
  have hxD := e7 i (by omega)
  rw [hdd] at hxd hxD
  simp only [dkOk] at hxd
  obtain ⟨hxn, hxc, hxa, hxp, hxp4, hxs⟩ := hxd
  have hxD : DeckAt h (q + 12 + 45 * i) l ps sc := hxD
  refine aw_callVR (As := [.int (nI (i))]) (rest := []) (c_X6_needDeck G hH hxi h4) kX6_needDeck w_250 e1 rfl rfl rfl rfl (Nat.le_of_ble_eq_true rfl) dX6_riffle_2 ⟨Nat.le_of_ble_eq_true rfl, Nat.le_of_ble_eq_true rfl⟩ ⟨Nat.le_of_ble_eq_true rfl, Nat.le_of_ble_eq_true rfl⟩ ?_
  refine aw_callVR (As := []) (rest := []) (c_X1_row G hxD) kX1_row w_214 hxD.1 rfl rfl rfl rfl (Nat.le_of_ble_eq_true rfl) dX6_riffle_5 ⟨Nat.le_of_ble_eq_true rfl, Nat.le_of_ble_eq_true rfl⟩ ⟨Nat.le_of_ble_eq_true rfl, Nat.le_of_ble_eq_true rfl⟩ ?_
  have hxR := hxD.2.1
  obtain ⟨u_1f, u_1g, u_11, u_12, u_13, u_1l, u_1v⟩ := hxR
  refine aw_astore_n (L' := [(2, .ref (q + 12 + 45 * i + 1)), (0, .ref (q)), (1, .int (nI (i)))]) dX6_riffle_8 (by decide) rfl ?_
  refine aw_aload_n dX6_riffle_9 rfl ?_
  refine aw_callVR (As := []) (rest := []) (c_X3_size G hxD.2.1) kX3_size w_218 u_11 rfl rfl rfl rfl (Nat.le_of_ble_eq_true rfl) dX6_riffle_10 ⟨Nat.le_of_ble_eq_true rfl, Nat.le_of_ble_eq_true rfl⟩ ⟨Nat.le_of_ble_eq_true rfl, Nat.le_of_ble_eq_true rfl⟩ ?_
  refine aw_istore_n (L' := [(3, .int (nI (l.length))), (2, .ref (q + 12 + 45 * i + 1)), (0, .ref (q)), (1, .int (nI (i)))]) dX6_riffle_13 (by decide) rfl ?_
  have K : ∀ (d : Nat) (k : Nat) (h1 : aH), k < d → (k ≤ l.length + 1) → (rfF l k = rifV l) → (∀ a, (a < q + 3 ∨ q + 12 ≤ a) → h1 a = h a) → (∃ z, RowAt h1 (q + 3) z) → (∃ z, RowAt h1 (q + 6) z) → (∃ z, RowAt h1 (q + 9) z) → aw G mX6_riffle [] (aRoom 12 0 0) (aEnd G (pQ (fun v h1 n1 => v = some (.int (rifV l)) ∧ n1 = nx ∧ aOff h h1 q 204 ∧ HallAt h1 q σ)) 0 0) 0 0 h1 nx 14 [(0, .ref (q)), (1, .int (nI (i))), (2, .ref (q + 12 + 45 * i + 1)), (3, .int (dn k))] [] := by
    intro d
    induction d with
    | zero => intro k h1 hMd; exact absurd hMd (Nat.not_lt_zero _)
    | succ d ih =>
      intro k h1 hMd hk hE o r1 r2 r3
      have e1n := (o q (by omega)).trans e1
      have hDn := hxD.keep (fun a g1 g2 => o a (by omega))
      have hRn := hDn.2.1
      obtain ⟨u_2f, u_2g, u_21, u_22, u_23, u_2l, u_2v⟩ := hRn
      cases k with
      | zero =>
        refine aw_iload_n dX6_riffle_14 rfl ?_
        refine aw_if_lt (tgt := 63) dX6_riffle_15 (by decide) (fun c1 => ?_) (fun c1 => absurd c1 (fun q => q dn_0))
        refine aw_iconst dX6_riffle_63 ic_m1 ?_
        have hE2 : -1 = rifV l := hE
        exact aw_ireturn dX6_riffle_64 rfl ⟨_, rfl, by rw [← hE2], rfl, (fun a ha => o a (by omega)), (hH.rows o r1 r2 r3)⟩ (Nat.le_of_ble_eq_true rfl) (Nat.le_of_ble_eq_true rfl)
      | succ k =>
        refine aw_to ?_ (show ([(0, .ref (q)), (1, .int (nI (i))), (2, .ref (q + 12 + 45 * i + 1)), (3, .int (dn (k + 1)))] : aL) = [(0, .ref (q)), (1, .int (nI (i))), (2, .ref (q + 12 + 45 * i + 1)), (3, .int (nI (k)))] from rfl) rfl rfl
        refine aw_iload_n dX6_riffle_14 rfl ?_
        refine aw_if_ltN (tgt := 63) (by omega) dX6_riffle_15 (by decide) ?_
        obtain ⟨z1, hr1⟩ := r1
        refine aw_aload_n dX6_riffle_18 rfl ?_
        refine aw_iload_n dX6_riffle_19 rfl ?_
        refine aw_callSR (As := [.ref (q + 12 + 45 * i + 1), .int (nI (k))]) (rest := []) (c_X2_placesFrom G hDn.2.1 hxc hxn.2 (a := k) (by omega)) kX2_placesFrom w_440 rfl rfl (Nat.le_of_ble_eq_true rfl) dX6_riffle_20 ⟨Nat.le_of_ble_eq_true rfl, Nat.le_of_ble_eq_true rfl⟩ ⟨Nat.le_of_ble_eq_true rfl, Nat.le_of_ble_eq_true rfl⟩ ?_
        have hpl := plf_lt (l := l) (a := k) l.length
        have hp16 : 2 ^ l.length ≤ 2 ^ 16 := Nat.pow_le_pow_right (by decide) hxn.2
        unfold rfF at hE
        obtain ⟨pm, hpm⟩ : ∃ pm, pm = plf l k l.length := ⟨_, rfl⟩
        rw [← hpm] at hpl hE ⊢
        refine aw_istore (L' := [(4, .int (nI (pm))), (0, .ref (q)), (1, .int (nI (i))), (2, .ref (q + 12 + 45 * i + 1)), (3, .int (nI (k)))]) dX6_riffle_23 (by decide) rfl ?_
        refine aw_aload_n dX6_riffle_25 rfl ?_
        refine aw_get 5 e1n rfl rfl (by decide) w_99 rfl dX6_riffle_26 ?_
        refine aw_bp (v := 8) dX6_riffle_29 (by decide) ?_
        refine aw_iload dX6_riffle_31 rfl ?_
        refine aw_aload_n dX6_riffle_33 rfl ?_
        refine aw_callVR (As := []) (rest := [.int (nI (pm)), .int (nI (8)), .ref (q + 3)]) (c_X3_size G hDn.2.1) kX3_size w_218 u_21 rfl rfl rfl rfl (Nat.le_of_ble_eq_true rfl) dX6_riffle_34 ⟨Nat.le_of_ble_eq_true rfl, Nat.le_of_ble_eq_true rfl⟩ ⟨Nat.le_of_ble_eq_true rfl, Nat.le_of_ble_eq_true rfl⟩ ?_
        have tk : (nI 8).toInt = ((8 : Nat) : Int) := (by decide)
        have tm : (nI pm).toInt = (pm : Int) := nI_toInt (by omega)
        have hO8 : isO ((8 : Nat) : Int) (pm : Int) l.length = true := decide_eq_true ⟨hxn, Or.inr (Or.inr (Or.inr (Or.inr (Or.inr (Or.inl ⟨rfl, by omega, by omega⟩)))))⟩
        refine aw_callSQ (As := [.ref (q + 3), .int (nI (8)), .int (nI (pm)), .int (nI (l.length))]) (rest := []) (c_X5_lay G (nI 8) (nI pm) hr1 hxn) kX5_lay w_369 rfl rfl (Nat.le_of_ble_eq_true rfl) dX6_riffle_37 ⟨Nat.le_of_ble_eq_true rfl, Nat.le_of_ble_eq_true rfl⟩ ⟨Nat.le_of_ble_eq_true rfl, Nat.le_of_ble_eq_true rfl⟩ (fun v_1 h_1 n_1 q_1 z_1 => ?_)
        rw [tk, tm] at q_1
        obtain ⟨rfl, oL, ⟨hO, rfl, rfl⟩ | ⟨hO, rfl, hL⟩⟩ := q_1
        · rw [hO8] at hO; exact absurd hO (by decide)
        refine aw_if_eqB (tgt := 57) dX6_riffle_40 (by decide) (fun c3 => absurd c3 (by decide)) (fun c3 => ?_)
        simp only [tk, tm, Int.toNat_natCast] at hL
        have e1m := (oL q (by omega)).trans e1n
        have hRm := (hDn.keep (fun a g1 g2 => oL a (by omega))).2.1
        have hLc := hL
        obtain ⟨u_3f, u_3g, u_31, u_32, u_33, u_3l, u_3v⟩ := hLc
        refine aw_aload_n dX6_riffle_43 rfl ?_
        refine aw_get 5 e1m rfl rfl (by decide) w_99 rfl dX6_riffle_44 ?_
        refine aw_aload_n dX6_riffle_47 rfl ?_
        refine aw_callVR (As := [.ref (q + 12 + 45 * i + 1)]) (rest := []) (c_X3_isPlacedAs G hL hRm (lay_cOk hO8) hxc hxn.2) kX3_isPlacedAs w_443 u_31 rfl rfl rfl rfl (Nat.le_of_ble_eq_true rfl) dX6_riffle_48 ⟨Nat.le_of_ble_eq_true rfl, Nat.le_of_ble_eq_true rfl⟩ ⟨Nat.le_of_ble_eq_true rfl, Nat.le_of_ble_eq_true rfl⟩ ?_
        have on : ∀ a, (a < q + 3 ∨ q + 12 ≤ a) → h_1 a = h a := fun a ha => (oL a (by omega)).trans (o a ha)
        refine aw_if_eqB (tgt := 57) dX6_riffle_51 (by decide) (fun c4 => ?_) (fun c4 => ?_)
        · skip
          rw [if_neg (of_decide_eq_false c4)] at hE
          refine aw_iinc (L' := [(3, .int (dn k)), (4, .int (nI (pm))), (0, .ref (q)), (1, .int (nI (i))), (2, .ref (q + 12 + 45 * i + 1))]) dX6_riffle_57 rfl (dn_pred k) (by decide) rfl ?_
          refine aw_goto (tgt := 14) dX6_riffle_60 (by decide) ?_
          refine aw_sub (L' := [(0, .ref (q)), (1, .int (nI (i))), (2, .ref (q + 12 + 45 * i + 1)), (3, .int (dn k))]) [2, 3, 4, 0] rfl ?_
          exact ih k h_1 (by omega) (by omega) hE on ⟨_, hL⟩ (by obtain ⟨z2, hr2⟩ := r2; exact ⟨z2, hr2.off oL (by omega)⟩) (by obtain ⟨z3, hr3⟩ := r3; exact ⟨z3, hr3.off oL (by omega)⟩)
        · skip
          rw [if_pos (of_decide_eq_true c4)] at hE
          refine aw_iload dX6_riffle_54 rfl ?_
          exact aw_ireturn dX6_riffle_56 rfl ⟨_, rfl, by rw [hE], rfl, (fun a ha => on a (by omega)), (hH.rows on ⟨_, hL⟩ (by obtain ⟨z2, hr2⟩ := r2; exact ⟨z2, hr2.off oL (by omega)⟩) (by obtain ⟨z3, hr3⟩ := r3; exact ⟨z3, hr3.off oL (by omega)⟩))⟩ (Nat.le_of_ble_eq_true rfl) (Nat.le_of_ble_eq_true rfl)
  refine aw_sub (L' := [(0, .ref (q)), (1, .int (nI (i))), (2, .ref (q + 12 + 45 * i + 1)), (3, .int (nI (l.length)))]) [2, 3, 1, 0] rfl ?_
  exact K (l.length + 2) (l.length + 1) h (by omega) (by omega) rfl (fun _ _ => rfl) ⟨_, e4⟩ ⟨_, e5⟩ ⟨_, e6⟩
set_option maxHeartbeats 4000000 in
set_option maxRecDepth 20000 in
/-- best -/
theorem p_X6_best (G : aG) {h : aH} {nx q c : Nat} {σ : aSg} (hH : HallAt h q σ) (hσ : sgOk c σ) (hc9 : c ≤ 512) (x : Int32) : aMet G mX6_best 12 1 6 [.ref (q), .int (x)] h nx (hPo h q nx (sBest σ x)) := by
  have h4 := hσ.1
  have h5 := hσ.2.1
  refine aMet_of rfl (Nat.le_of_ble_eq_true rfl) ?_
  show aw G mX6_best [] (aRoom 12 1 6) (aEnd G (hPo h q nx (sBest σ x)) 1 6) 0 0 h nx 0 [(0, .ref (q)), (1, .int (x))] []
  have hHc := hH
  obtain ⟨e1, e2, e3, ⟨z1, e4⟩, ⟨z2, e5⟩, ⟨z3, e6⟩, e7, e8⟩ := hHc
  refine aw_aload_n dX6_best_0 rfl ?_
  refine aw_iload_n dX6_best_1 rfl ?_
  by_cases hx : inD σ x = true
  rotate_left
  · skip
    have hs : sBest σ x = (.inr xIOB, σ) := by unfold sBest; rw [if_neg hx]
    exact aw_callVT (As := [.int (x)]) (rest := []) (t_X6_needDeck G hH x h4 (bf hx)) kX6_needDeck w_250 e1 rfl rfl rfl rfl (Nat.le_of_ble_eq_true rfl) dX6_best_2 ⟨Nat.le_of_ble_eq_true rfl, Nat.le_of_ble_eq_true rfl⟩ ⟨Nat.le_of_ble_eq_true rfl, Nat.le_of_ble_eq_true rfl⟩ (Nat.le_of_ble_eq_true rfl) (Nat.le_of_ble_eq_true rfl) (fun n1 hn1 => hPo_of hs hn1 aOff.rf hH)
  obtain ⟨i, hxi, rfl⟩ := in_of hx (by omega)
  have hxd := hσ.2.2.2.1 i hxi
  have hxD := e7 i (by omega)
  obtain ⟨⟨l, ps, sc⟩, hxq⟩ : ∃ d, d = σ.1.getD i dk0 := ⟨_, rfl⟩
  rw [← hxq] at hxd hxD
  have hxI : dkI σ (nI i) = (l, ps, sc) := (dkI_i (by omega)).trans hxq.symm
  simp only [dkOk] at hxd
  obtain ⟨hxn, hxc, hxa, hxp, hxp4, hxs⟩ := hxd
  have hxD : DeckAt h (q + 12 + 45 * i) l ps sc := hxD
  refine aw_callVR (As := [.int (nI (i))]) (rest := []) (c_X6_needDeck G hH hxi h4) kX6_needDeck w_250 e1 rfl rfl rfl rfl (Nat.le_of_ble_eq_true rfl) dX6_best_2 ⟨Nat.le_of_ble_eq_true rfl, Nat.le_of_ble_eq_true rfl⟩ ⟨Nat.le_of_ble_eq_true rfl, Nat.le_of_ble_eq_true rfl⟩ ?_
  refine aw_callVR (As := []) (rest := []) (c_X1_row G hxD) kX1_row w_214 hxD.1 rfl rfl rfl rfl (Nat.le_of_ble_eq_true rfl) dX6_best_5 ⟨Nat.le_of_ble_eq_true rfl, Nat.le_of_ble_eq_true rfl⟩ ⟨Nat.le_of_ble_eq_true rfl, Nat.le_of_ble_eq_true rfl⟩ ?_
  have hxR := hxD.2.1
  obtain ⟨u_1f, u_1g, u_11, u_12, u_13, u_1l, u_1v⟩ := hxR
  refine aw_astore_n (L' := [(2, .ref (q + 12 + 45 * i + 1)), (0, .ref (q)), (1, .int (nI (i)))]) dX6_best_8 (by decide) rfl ?_
  refine aw_iconst dX6_best_9 ic_m1 ?_
  refine aw_istore_n (L' := [(3, .int (-1)), (2, .ref (q + 12 + 45 * i + 1)), (0, .ref (q)), (1, .int (nI (i)))]) dX6_best_10 (by decide) rfl ?_
  refine aw_ic dX6_best_11 ic_0 ?_
  refine aw_istore (L' := [(4, .int (nI (0))), (3, .int (-1)), (2, .ref (q + 12 + 45 * i + 1)), (0, .ref (q)), (1, .int (nI (i)))]) dX6_best_12 (by decide) rfl ?_
  refine aw_ic dX6_best_14 ic_1 ?_
  refine aw_istore (L' := [(5, .int (nI (1))), (4, .int (nI (0))), (3, .int (-1)), (2, .ref (q + 12 + 45 * i + 1)), (0, .ref (q)), (1, .int (nI (i)))]) dX6_best_15 (by decide) rfl ?_
  have K : ∀ (d : Nat) (k e : Nat) (z : Int32 × Nat) (h1 : aH), 5 - k < d → (k ≤ 5) → (z = bsK l k) → ((z.1 = -1 ∧ z.2 = 2147483647) ∨ (z.1 ≠ -1 ∧ e = z.2 ∧ z.2 < 2147483647)) → (e < 2147483647) → (∀ a, (a < q + 3 ∨ q + 12 ≤ a) → h1 a = h a) → (∃ z, RowAt h1 (q + 3) z) → (∃ z, RowAt h1 (q + 6) z) → (∃ z, RowAt h1 (q + 9) z) → aw G mX6_best [] (aRoom 12 1 6) (aEnd G (hPo h q nx (sBest σ (nI i))) 1 6) 0 0 h1 nx 17 [(0, .ref (q)), (1, .int (nI (i))), (2, .ref (q + 12 + 45 * i + 1)), (3, .int (z.1)), (4, .int (nI (e))), (5, .int (nI (k + 1)))] [] := by
    intro d
    induction d with
    | zero => intro k e z h1 hMd; exact absurd hMd (Nat.not_lt_zero _)
    | succ d ih =>
      intro k e z h1 hMd hk hz he he2 o r1 r2 r3
      have e1n := (o q (by omega)).trans e1
      have hDn := hxD.keep (fun a g1 g2 => o a (by omega))
      have hRn := hDn.2.1
      obtain ⟨u_2f, u_2g, u_21, u_22, u_23, u_2l, u_2v⟩ := hRn
      refine aw_iload dX6_best_17 rfl ?_
      refine aw_ic dX6_best_19 ic_5 ?_
      refine aw_icmp_gtN (tgt := 107) (by omega) (by omega) dX6_best_20 (by decide) (fun c1 => ?_) (fun c1 => ?_)
      · skip
        have e9 : k = 5 := by omega
        subst e9
        refine aw_iload_n dX6_best_107 rfl ?_
        have hs : sBest σ (nI i) = (.inl (some (.int z.1)), σ) := by unfold sBest; rw [if_pos hx, hxI, hz]; rfl
        exact aw_ireturn dX6_best_108 rfl (hPo_of hs (Nat.le_refl _) (fun a ha => o a (by omega)) (hH.rows o r1 r2 r3)) (Nat.le_of_ble_eq_true rfl) (Nat.le_of_ble_eq_true rfl)
      · skip
        refine aw_iload dX6_best_23 rfl ?_
        refine aw_ic dX6_best_25 ic_5 ?_
        obtain ⟨kn, hkn⟩ : ∃ kn, kn = if k + 1 = 5 then 2 else 0 := ⟨_, rfl⟩
        have hkn2 : kn ≤ 2 := by rw [hkn]; split <;> omega
        have J : aw G mX6_best [] (aRoom 12 1 6) (aEnd G (hPo h q nx (sBest σ (nI i))) 1 6) 0 0 h1 nx 34 [(0, .ref (q)), (1, .int (nI (i))), (2, .ref (q + 12 + 45 * i + 1)), (3, .int (z.1)), (4, .int (nI (e))), (5, .int (nI (k + 1)))] [.int (nI kn)] := by
          obtain ⟨z1, hr1⟩ := r1
          obtain ⟨z3, hr3⟩ := r3
          refine aw_istore (L' := [(6, .int (nI (kn))), (0, .ref (q)), (1, .int (nI (i))), (2, .ref (q + 12 + 45 * i + 1)), (3, .int (z.1)), (4, .int (nI (e))), (5, .int (nI (k + 1)))]) dX6_best_34 (by decide) rfl ?_
          refine aw_aload_n dX6_best_36 rfl ?_
          refine aw_get 5 e1n rfl rfl (by decide) w_99 rfl dX6_best_37 ?_
          refine aw_iload dX6_best_40 rfl ?_
          refine aw_iload dX6_best_42 rfl ?_
          refine aw_aload_n dX6_best_44 rfl ?_
          refine aw_callVR (As := []) (rest := [.int (nI (kn)), .int (nI (k + 1)), .ref (q + 3)]) (c_X3_size G hDn.2.1) kX3_size w_218 u_21 rfl rfl rfl rfl (Nat.le_of_ble_eq_true rfl) dX6_best_45 ⟨Nat.le_of_ble_eq_true rfl, Nat.le_of_ble_eq_true rfl⟩ ⟨Nat.le_of_ble_eq_true rfl, Nat.le_of_ble_eq_true rfl⟩ ?_
          have tk : (nI (k + 1)).toInt = ((k + 1 : Nat) : Int) := nI_toInt (by omega)
          have tm : (nI kn).toInt = (kn : Int) := nI_toInt (by omega)
          refine aw_callSQ (As := [.ref (q + 3), .int (nI (k + 1)), .int (nI (kn)), .int (nI (l.length))]) (rest := []) (c_X5_lay G (nI (k + 1)) (nI kn) hr1 hxn) kX5_lay w_369 rfl rfl (Nat.le_of_ble_eq_true rfl) dX6_best_48 ⟨Nat.le_of_ble_eq_true rfl, Nat.le_of_ble_eq_true rfl⟩ ⟨Nat.le_of_ble_eq_true rfl, Nat.le_of_ble_eq_true rfl⟩ (fun v_1 h_1 n_1 q_1 z_1 => ?_)
          rw [tk, tm] at q_1
          obtain ⟨rfl, oL, ⟨hO, rfl, rfl⟩ | ⟨hO, rfl, hL⟩⟩ := q_1
          · skip
            refine aw_if_eqB (tgt := 101) dX6_best_51 (by decide) (fun c3 => ?_) (fun c3 => absurd c3 (by decide))
            refine aw_iincN (k := 1) (L' := [(5, .int (nI ((k + 1) + 1))), (6, .int (nI (kn))), (0, .ref (q)), (1, .int (nI (i))), (2, .ref (q + 12 + 45 * i + 1)), (3, .int (z.1)), (4, .int (nI (e)))]) dX6_best_101 (by decide) rfl (by decide) rfl ?_
            refine aw_goto (tgt := 17) dX6_best_104 (by decide) ?_
            refine aw_sub (L' := [(0, .ref (q)), (1, .int (nI (i))), (2, .ref (q + 12 + 45 * i + 1)), (3, .int (z.1)), (4, .int (nI (e))), (5, .int (nI ((k + 1) + 1)))]) [2, 3, 4, 5, 6, 0] rfl ?_
            exact ih (k + 1) e z h_1 (by omega) (by omega) (by rw [hz]; show _ = bsS l (k + 1) _ (bsK l k); unfold bsS; rw [← hkn, if_neg (by rw [hO]; simp)]) he he2 o ⟨z1, hr1⟩ r2 ⟨z3, hr3⟩
          · skip
            refine aw_if_eqB (tgt := 101) dX6_best_51 (by decide) (fun c3 => absurd c3 (by decide)) (fun c3 => ?_)
            simp only [tk, tm, Int.toNat_natCast] at hL
            have e1m := (oL q (by omega)).trans e1n
            have hr3m := hr3.off oL (by omega)
            have hRm := (hDn.keep (fun a g1 g2 => oL a (by omega))).2.1
            have hr3c := hr3m
            obtain ⟨u_3f, u_3g, u_31, u_32, u_33, u_3l, u_3v⟩ := hr3c
            refine aw_aload_n dX6_best_54 rfl ?_
            refine aw_get 7 e1m rfl rfl (by decide) w_101 rfl dX6_best_55 ?_
            refine aw_aload_n dX6_best_58 rfl ?_
            refine aw_callVQ (As := [.ref (q + 12 + 45 * i + 1)]) (rest := []) (c_X3_copy G hr3m hRm (by omega)) kX3_copy w_424 u_31 rfl rfl rfl rfl (Nat.le_of_ble_eq_true rfl) dX6_best_59 ⟨Nat.le_of_ble_eq_true rfl, Nat.le_of_ble_eq_true rfl⟩ ⟨Nat.le_of_ble_eq_true rfl, Nat.le_of_ble_eq_true rfl⟩ (fun v_2 h_2 n_2 q_2 z_2 => ?_)
            obtain ⟨rfl, rfl, R_1, o_1⟩ := q_2
            have f_1 := (o_1 q (by omega)).trans e1m
            have R_1c := R_1
            obtain ⟨u_4f, u_4g, u_41, u_42, u_43, u_4l, u_4v⟩ := R_1c
            refine aw_aload_n dX6_best_62 rfl ?_
            refine aw_get 7 f_1 rfl rfl (by decide) w_101 rfl dX6_best_63 ?_
            refine aw_aload_n dX6_best_66 rfl ?_
            refine aw_get 5 f_1 rfl rfl (by decide) w_99 rfl dX6_best_67 ?_
            have hLm := hL.off o_1 (by omega)
            have hlc := lay_cOk hO
            refine aw_callVQ (As := [.ref (q + 3)]) (rest := []) (c_X3_follow G R_1 hLm hxc hlc hxn.2 (by omega)) kX3_follow w_431 u_41 rfl rfl rfl rfl (Nat.le_of_ble_eq_true rfl) dX6_best_70 ⟨Nat.le_of_ble_eq_true rfl, Nat.le_of_ble_eq_true rfl⟩ ⟨Nat.le_of_ble_eq_true rfl, Nat.le_of_ble_eq_true rfl⟩ (fun v_3 h_3 n_3 q_3 z_3 => ?_)
            obtain ⟨rfl, rfl, R_2, o_2⟩ := q_3
            have f_2 := (o_2 q (by omega)).trans f_1
            refine aw_aload_n dX6_best_73 rfl ?_
            refine aw_get 7 f_2 rfl rfl (by decide) w_101 rfl dX6_best_74 ?_
            have hfc := fol_cOk hxc hlc
            have hiv := invs_lx (l := fol l (layL (k + 1) kn l.length)) hxn.2
            refine aw_callSR (As := [.ref (q + 9)]) (rest := []) (c_X2_inversions G R_2 hfc hxn.2) kX2_inversions w_296 rfl rfl (Nat.le_of_ble_eq_true rfl) dX6_best_77 ⟨Nat.le_of_ble_eq_true rfl, Nat.le_of_ble_eq_true rfl⟩ ⟨Nat.le_of_ble_eq_true rfl, Nat.le_of_ble_eq_true rfl⟩ ?_
            obtain ⟨iv, hiv2⟩ : ∃ iv, iv = invs (fol l (layL (k + 1) kn l.length)) l.length := ⟨_, rfl⟩
            rw [← hiv2] at hiv ⊢
            refine aw_istore (L' := [(7, .int (nI (iv))), (6, .int (nI (kn))), (0, .ref (q)), (1, .int (nI (i))), (2, .ref (q + 12 + 45 * i + 1)), (3, .int (z.1)), (4, .int (nI (e))), (5, .int (nI (k + 1)))]) dX6_best_80 (by decide) rfl ?_
            refine aw_iload_n dX6_best_82 rfl ?_
            refine aw_iconst dX6_best_83 ic_m1 ?_
            have on : ∀ a, (a < q + 3 ∨ q + 12 ≤ a) → h_3 a = h a := fun a ha => (o_2 a (by omega)).trans ((o_1 a (by omega)).trans ((oL a (by omega)).trans (o a ha)))
            have S : (iv < z.2) → aw G mX6_best [] (aRoom 12 1 6) (aEnd G (hPo h q n_3 (sBest σ (nI i))) 1 6) 0 0 h_3 n_3 94 [(7, .int (nI (iv))), (6, .int (nI (kn))), (0, .ref (q)), (1, .int (nI (i))), (2, .ref (q + 12 + 45 * i + 1)), (3, .int (z.1)), (4, .int (nI (e))), (5, .int (nI (k + 1)))] [] := by
              intro hlt
              refine aw_iload dX6_best_94 rfl ?_
              refine aw_istore (L' := [(4, .int (nI (iv))), (7, .int (nI (iv))), (6, .int (nI (kn))), (0, .ref (q)), (1, .int (nI (i))), (2, .ref (q + 12 + 45 * i + 1)), (3, .int (z.1)), (5, .int (nI (k + 1)))]) dX6_best_96 (by decide) rfl ?_
              refine aw_iload dX6_best_98 rfl ?_
              refine aw_istore_n (L' := [(3, .int (nI (k + 1))), (4, .int (nI (iv))), (7, .int (nI (iv))), (6, .int (nI (kn))), (0, .ref (q)), (1, .int (nI (i))), (2, .ref (q + 12 + 45 * i + 1)), (5, .int (nI (k + 1)))]) dX6_best_100 (by decide) rfl ?_
              refine aw_iincN (k := 1) (L' := [(5, .int (nI ((k + 1) + 1))), (3, .int (nI (k + 1))), (4, .int (nI (iv))), (7, .int (nI (iv))), (6, .int (nI (kn))), (0, .ref (q)), (1, .int (nI (i))), (2, .ref (q + 12 + 45 * i + 1))]) dX6_best_101 (by decide) rfl (by decide) rfl ?_
              refine aw_goto (tgt := 17) dX6_best_104 (by decide) ?_
              refine aw_sub (L' := [(0, .ref (q)), (1, .int (nI (i))), (2, .ref (q + 12 + 45 * i + 1)), (3, .int (nI (k + 1))), (4, .int (nI (iv))), (5, .int (nI ((k + 1) + 1)))]) [5, 6, 7, 1, 2, 0] rfl ?_
              exact ih (k + 1) iv (nI (k + 1), iv) h_3 (by omega) (by omega) (by show _ = bsS l (k + 1) _ (bsK l k); unfold bsS; rw [← hkn, if_pos hO, ← hiv2, ← hz, if_pos hlt]) (Or.inr ⟨(by intro q; have e1 := congrArg Int32.toInt q; rw [tk] at e1; rw [show (-1 : Int32).toInt = -1 from by decide] at e1; omega), rfl, by show iv < _; omega⟩) (by omega) on ⟨_, hLm.off o_2 (by omega)⟩ (by obtain ⟨z2, hr2⟩ := r2; exact ⟨z2, ((hr2.off oL (by omega)).off o_1 (by omega)).off o_2 (by omega)⟩) ⟨_, R_2⟩
            refine aw_icmp_eq (tgt := 94) dX6_best_84 (by decide) (fun c4 => ?_) (fun c4 => ?_)
            · skip
              exact S (by rcases he with ⟨_, q⟩ | ⟨q, _⟩; omega; exact absurd c4 q)
            · skip
              have he3 : e = z.2 := by rcases he with ⟨q, _⟩ | ⟨_, q, _⟩; exact absurd q c4; exact q
              refine aw_iload dX6_best_87 rfl ?_
              refine aw_iload dX6_best_89 rfl ?_
              refine aw_icmp_geN (tgt := 101) (by omega) (by omega) dX6_best_91 (by decide) (fun c5 => ?_) (fun c5 => ?_)
              · skip
                refine aw_iincN (k := 1) (L' := [(5, .int (nI ((k + 1) + 1))), (7, .int (nI (iv))), (6, .int (nI (kn))), (0, .ref (q)), (1, .int (nI (i))), (2, .ref (q + 12 + 45 * i + 1)), (3, .int (z.1)), (4, .int (nI (e)))]) dX6_best_101 (by decide) rfl (by decide) rfl ?_
                refine aw_goto (tgt := 17) dX6_best_104 (by decide) ?_
                refine aw_sub (L' := [(0, .ref (q)), (1, .int (nI (i))), (2, .ref (q + 12 + 45 * i + 1)), (3, .int (z.1)), (4, .int (nI (e))), (5, .int (nI ((k + 1) + 1)))]) [3, 4, 5, 6, 7, 0] rfl ?_
                exact ih (k + 1) e z h_3 (by omega) (by omega) (by show _ = bsS l (k + 1) _ (bsK l k); unfold bsS; rw [← hkn, if_pos hO, ← hiv2, ← hz, if_neg (by omega)]) he he2 on ⟨_, hLm.off o_2 (by omega)⟩ (by obtain ⟨z2, hr2⟩ := r2; exact ⟨z2, ((hr2.off oL (by omega)).off o_1 (by omega)).off o_2 (by omega)⟩) ⟨_, R_2⟩
              · skip
                exact S (by omega)
        refine aw_icmp_neN (tgt := 33) (by omega) (by omega) dX6_best_26 (by decide) (fun c2 => ?_) (fun c2 => ?_)
        · skip
          refine aw_ic dX6_best_33 ic_0 ?_
          rw [hkn, if_neg c2] at J
          exact J
        · skip
          refine aw_ic dX6_best_29 ic_2 ?_
          refine aw_goto (tgt := 34) dX6_best_30 (by decide) ?_
          rw [hkn, if_pos c2] at J
          exact J
  refine aw_sub (L' := [(0, .ref (q)), (1, .int (nI (i))), (2, .ref (q + 12 + 45 * i + 1)), (3, .int (-1)), (4, .int (nI (0))), (5, .int (nI (1)))]) [4, 5, 3, 2, 1, 0] rfl ?_
  exact K 6 0 0 (-1, 2147483647) h (by omega) (by omega) rfl (Or.inl ⟨rfl, rfl⟩) (by omega) (fun _ _ => rfl) ⟨_, e4⟩ ⟨_, e5⟩ ⟨_, e6⟩
set_option maxHeartbeats 4000000 in
set_option maxRecDepth 20000 in
/-- riffle -/
theorem p_X6_riffle (G : aG) {h : aH} {nx q c : Nat} {σ : aSg} (hH : HallAt h q σ) (hσ : sgOk c σ) (hc9 : c ≤ 512) (x : Int32) : aMet G mX6_riffle 12 1 6 [.ref (q), .int (x)] h nx (hPo h q nx (sRiffle σ x)) := by
  have h4 := hσ.1
  have h5 := hσ.2.1
  refine aMet_of rfl (Nat.le_of_ble_eq_true rfl) ?_
  show aw G mX6_riffle [] (aRoom 12 1 6) (aEnd G (hPo h q nx (sRiffle σ x)) 1 6) 0 0 h nx 0 [(0, .ref (q)), (1, .int (x))] []
  have hHc := hH
  obtain ⟨e1, e2, e3, ⟨z1, e4⟩, ⟨z2, e5⟩, ⟨z3, e6⟩, e7, e8⟩ := hHc
  refine aw_aload_n dX6_riffle_0 rfl ?_
  refine aw_iload_n dX6_riffle_1 rfl ?_
  by_cases hx : inD σ x = true
  rotate_left
  · skip
    have hs : sRiffle σ x = (.inr xIOB, σ) := by unfold sRiffle; rw [if_neg hx]
    exact aw_callVT (As := [.int (x)]) (rest := []) (t_X6_needDeck G hH x h4 (bf hx)) kX6_needDeck w_250 e1 rfl rfl rfl rfl (Nat.le_of_ble_eq_true rfl) dX6_riffle_2 ⟨Nat.le_of_ble_eq_true rfl, Nat.le_of_ble_eq_true rfl⟩ ⟨Nat.le_of_ble_eq_true rfl, Nat.le_of_ble_eq_true rfl⟩ (Nat.le_of_ble_eq_true rfl) (Nat.le_of_ble_eq_true rfl) (fun n1 hn1 => hPo_of hs hn1 aOff.rf hH)
  obtain ⟨i, hxi, rfl⟩ := in_of hx (by omega)
  have hxd := hσ.2.2.2.1 i hxi
  have hxD := e7 i (by omega)
  obtain ⟨⟨l, ps, sc⟩, hxq⟩ : ∃ d, d = σ.1.getD i dk0 := ⟨_, rfl⟩
  rw [← hxq] at hxd hxD
  have hxI : dkI σ (nI i) = (l, ps, sc) := (dkI_i (by omega)).trans hxq.symm
  simp only [dkOk] at hxd
  obtain ⟨hxn, hxc, hxa, hxp, hxp4, hxs⟩ := hxd
  have hxD : DeckAt h (q + 12 + 45 * i) l ps sc := hxD
  refine aw_callVR (As := [.int (nI (i))]) (rest := []) (c_X6_needDeck G hH hxi h4) kX6_needDeck w_250 e1 rfl rfl rfl rfl (Nat.le_of_ble_eq_true rfl) dX6_riffle_2 ⟨Nat.le_of_ble_eq_true rfl, Nat.le_of_ble_eq_true rfl⟩ ⟨Nat.le_of_ble_eq_true rfl, Nat.le_of_ble_eq_true rfl⟩ ?_
  refine aw_callVR (As := []) (rest := []) (c_X1_row G hxD) kX1_row w_214 hxD.1 rfl rfl rfl rfl (Nat.le_of_ble_eq_true rfl) dX6_riffle_5 ⟨Nat.le_of_ble_eq_true rfl, Nat.le_of_ble_eq_true rfl⟩ ⟨Nat.le_of_ble_eq_true rfl, Nat.le_of_ble_eq_true rfl⟩ ?_
  have hxR := hxD.2.1
  obtain ⟨u_1f, u_1g, u_11, u_12, u_13, u_1l, u_1v⟩ := hxR
  refine aw_astore_n (L' := [(2, .ref (q + 12 + 45 * i + 1)), (0, .ref (q)), (1, .int (nI (i)))]) dX6_riffle_8 (by decide) rfl ?_
  refine aw_aload_n dX6_riffle_9 rfl ?_
  refine aw_callVR (As := []) (rest := []) (c_X3_size G hxD.2.1) kX3_size w_218 u_11 rfl rfl rfl rfl (Nat.le_of_ble_eq_true rfl) dX6_riffle_10 ⟨Nat.le_of_ble_eq_true rfl, Nat.le_of_ble_eq_true rfl⟩ ⟨Nat.le_of_ble_eq_true rfl, Nat.le_of_ble_eq_true rfl⟩ ?_
  refine aw_istore_n (L' := [(3, .int (nI (l.length))), (2, .ref (q + 12 + 45 * i + 1)), (0, .ref (q)), (1, .int (nI (i)))]) dX6_riffle_13 (by decide) rfl ?_
  have K : ∀ (d : Nat) (k : Nat) (h1 : aH), k < d → (k ≤ l.length + 1) → (rfF l k = rifV l) → (∀ a, (a < q + 3 ∨ q + 12 ≤ a) → h1 a = h a) → (∃ z, RowAt h1 (q + 3) z) → (∃ z, RowAt h1 (q + 6) z) → (∃ z, RowAt h1 (q + 9) z) → aw G mX6_riffle [] (aRoom 12 1 6) (aEnd G (hPo h q nx (sRiffle σ (nI i))) 1 6) 0 0 h1 nx 14 [(0, .ref (q)), (1, .int (nI (i))), (2, .ref (q + 12 + 45 * i + 1)), (3, .int (dn k))] [] := by
    intro d
    induction d with
    | zero => intro k h1 hMd; exact absurd hMd (Nat.not_lt_zero _)
    | succ d ih =>
      intro k h1 hMd hk hE o r1 r2 r3
      have e1n := (o q (by omega)).trans e1
      have hDn := hxD.keep (fun a g1 g2 => o a (by omega))
      have hRn := hDn.2.1
      obtain ⟨u_2f, u_2g, u_21, u_22, u_23, u_2l, u_2v⟩ := hRn
      cases k with
      | zero =>
        refine aw_iload_n dX6_riffle_14 rfl ?_
        refine aw_if_lt (tgt := 63) dX6_riffle_15 (by decide) (fun c1 => ?_) (fun c1 => absurd c1 (fun q => q dn_0))
        refine aw_iconst dX6_riffle_63 ic_m1 ?_
        have hE2 : -1 = rifV l := hE
        have hs : sRiffle σ (nI i) = (.inl (some (.int (-1))), σ) := by unfold sRiffle; rw [if_pos hx, hxI, ← hE2]
        exact aw_ireturn dX6_riffle_64 rfl (hPo_of hs (Nat.le_refl _) (fun a ha => o a (by omega)) (hH.rows o r1 r2 r3)) (Nat.le_of_ble_eq_true rfl) (Nat.le_of_ble_eq_true rfl)
      | succ k =>
        refine aw_to ?_ (show ([(0, .ref (q)), (1, .int (nI (i))), (2, .ref (q + 12 + 45 * i + 1)), (3, .int (dn (k + 1)))] : aL) = [(0, .ref (q)), (1, .int (nI (i))), (2, .ref (q + 12 + 45 * i + 1)), (3, .int (nI (k)))] from rfl) rfl rfl
        refine aw_iload_n dX6_riffle_14 rfl ?_
        refine aw_if_ltN (tgt := 63) (by omega) dX6_riffle_15 (by decide) ?_
        obtain ⟨z1, hr1⟩ := r1
        refine aw_aload_n dX6_riffle_18 rfl ?_
        refine aw_iload_n dX6_riffle_19 rfl ?_
        refine aw_callSR (As := [.ref (q + 12 + 45 * i + 1), .int (nI (k))]) (rest := []) (c_X2_placesFrom G hDn.2.1 hxc hxn.2 (a := k) (by omega)) kX2_placesFrom w_440 rfl rfl (Nat.le_of_ble_eq_true rfl) dX6_riffle_20 ⟨Nat.le_of_ble_eq_true rfl, Nat.le_of_ble_eq_true rfl⟩ ⟨Nat.le_of_ble_eq_true rfl, Nat.le_of_ble_eq_true rfl⟩ ?_
        have hpl := plf_lt (l := l) (a := k) l.length
        have hp16 : 2 ^ l.length ≤ 2 ^ 16 := Nat.pow_le_pow_right (by decide) hxn.2
        unfold rfF at hE
        obtain ⟨pm, hpm⟩ : ∃ pm, pm = plf l k l.length := ⟨_, rfl⟩
        rw [← hpm] at hpl hE ⊢
        refine aw_istore (L' := [(4, .int (nI (pm))), (0, .ref (q)), (1, .int (nI (i))), (2, .ref (q + 12 + 45 * i + 1)), (3, .int (nI (k)))]) dX6_riffle_23 (by decide) rfl ?_
        refine aw_aload_n dX6_riffle_25 rfl ?_
        refine aw_get 5 e1n rfl rfl (by decide) w_99 rfl dX6_riffle_26 ?_
        refine aw_bp (v := 8) dX6_riffle_29 (by decide) ?_
        refine aw_iload dX6_riffle_31 rfl ?_
        refine aw_aload_n dX6_riffle_33 rfl ?_
        refine aw_callVR (As := []) (rest := [.int (nI (pm)), .int (nI (8)), .ref (q + 3)]) (c_X3_size G hDn.2.1) kX3_size w_218 u_21 rfl rfl rfl rfl (Nat.le_of_ble_eq_true rfl) dX6_riffle_34 ⟨Nat.le_of_ble_eq_true rfl, Nat.le_of_ble_eq_true rfl⟩ ⟨Nat.le_of_ble_eq_true rfl, Nat.le_of_ble_eq_true rfl⟩ ?_
        have tk : (nI 8).toInt = ((8 : Nat) : Int) := (by decide)
        have tm : (nI pm).toInt = (pm : Int) := nI_toInt (by omega)
        have hO8 : isO ((8 : Nat) : Int) (pm : Int) l.length = true := decide_eq_true ⟨hxn, Or.inr (Or.inr (Or.inr (Or.inr (Or.inr (Or.inl ⟨rfl, by omega, by omega⟩)))))⟩
        refine aw_callSQ (As := [.ref (q + 3), .int (nI (8)), .int (nI (pm)), .int (nI (l.length))]) (rest := []) (c_X5_lay G (nI 8) (nI pm) hr1 hxn) kX5_lay w_369 rfl rfl (Nat.le_of_ble_eq_true rfl) dX6_riffle_37 ⟨Nat.le_of_ble_eq_true rfl, Nat.le_of_ble_eq_true rfl⟩ ⟨Nat.le_of_ble_eq_true rfl, Nat.le_of_ble_eq_true rfl⟩ (fun v_1 h_1 n_1 q_1 z_1 => ?_)
        rw [tk, tm] at q_1
        obtain ⟨rfl, oL, ⟨hO, rfl, rfl⟩ | ⟨hO, rfl, hL⟩⟩ := q_1
        · rw [hO8] at hO; exact absurd hO (by decide)
        refine aw_if_eqB (tgt := 57) dX6_riffle_40 (by decide) (fun c3 => absurd c3 (by decide)) (fun c3 => ?_)
        simp only [tk, tm, Int.toNat_natCast] at hL
        have e1m := (oL q (by omega)).trans e1n
        have hRm := (hDn.keep (fun a g1 g2 => oL a (by omega))).2.1
        have hLc := hL
        obtain ⟨u_3f, u_3g, u_31, u_32, u_33, u_3l, u_3v⟩ := hLc
        refine aw_aload_n dX6_riffle_43 rfl ?_
        refine aw_get 5 e1m rfl rfl (by decide) w_99 rfl dX6_riffle_44 ?_
        refine aw_aload_n dX6_riffle_47 rfl ?_
        refine aw_callVR (As := [.ref (q + 12 + 45 * i + 1)]) (rest := []) (c_X3_isPlacedAs G hL hRm (lay_cOk hO8) hxc hxn.2) kX3_isPlacedAs w_443 u_31 rfl rfl rfl rfl (Nat.le_of_ble_eq_true rfl) dX6_riffle_48 ⟨Nat.le_of_ble_eq_true rfl, Nat.le_of_ble_eq_true rfl⟩ ⟨Nat.le_of_ble_eq_true rfl, Nat.le_of_ble_eq_true rfl⟩ ?_
        have on : ∀ a, (a < q + 3 ∨ q + 12 ≤ a) → h_1 a = h a := fun a ha => (oL a (by omega)).trans (o a ha)
        refine aw_if_eqB (tgt := 57) dX6_riffle_51 (by decide) (fun c4 => ?_) (fun c4 => ?_)
        · skip
          rw [if_neg (of_decide_eq_false c4)] at hE
          refine aw_iinc (L' := [(3, .int (dn k)), (4, .int (nI (pm))), (0, .ref (q)), (1, .int (nI (i))), (2, .ref (q + 12 + 45 * i + 1))]) dX6_riffle_57 rfl (dn_pred k) (by decide) rfl ?_
          refine aw_goto (tgt := 14) dX6_riffle_60 (by decide) ?_
          refine aw_sub (L' := [(0, .ref (q)), (1, .int (nI (i))), (2, .ref (q + 12 + 45 * i + 1)), (3, .int (dn k))]) [2, 3, 4, 0] rfl ?_
          exact ih k h_1 (by omega) (by omega) hE on ⟨_, hL⟩ (by obtain ⟨z2, hr2⟩ := r2; exact ⟨z2, hr2.off oL (by omega)⟩) (by obtain ⟨z3, hr3⟩ := r3; exact ⟨z3, hr3.off oL (by omega)⟩)
        · skip
          rw [if_pos (of_decide_eq_true c4)] at hE
          refine aw_iload dX6_riffle_54 rfl ?_
          have hs : sRiffle σ (nI i) = (.inl (some (.int (nI pm))), σ) := by unfold sRiffle; rw [if_pos hx, hxI, hE]
          exact aw_ireturn dX6_riffle_56 rfl (hPo_of hs (Nat.le_refl _) (fun a ha => on a (by omega)) (hH.rows on ⟨_, hL⟩ (by obtain ⟨z2, hr2⟩ := r2; exact ⟨z2, hr2.off oL (by omega)⟩) (by obtain ⟨z3, hr3⟩ := r3; exact ⟨z3, hr3.off oL (by omega)⟩))) (Nat.le_of_ble_eq_true rfl) (Nat.le_of_ble_eq_true rfl)
  refine aw_sub (L' := [(0, .ref (q)), (1, .int (nI (i))), (2, .ref (q + 12 + 45 * i + 1)), (3, .int (nI (l.length)))]) [2, 3, 1, 0] rfl ?_
  exact K (l.length + 2) (l.length + 1) h (by omega) (by omega) rfl (fun _ _ => rfl) ⟨_, e4⟩ ⟨_, e5⟩ ⟨_, e6⟩
