set_option maxHeartbeats 4000000 in
set_option maxRecDepth 20000 in
/-- alike, asked rightly -/
theorem c_X6_alike (G : aG) {h : aH} {nx q c : Nat} {σ : aSg} (hH : HallAt h q σ) (hσ : sgOk c σ) (hc9 : c ≤ 512) {i : Nat} {l : List Nat} {ps : List (List Nat)} {sc : Nat} (hxi : i < σ.1.length) (hdd : σ.1.getD i dk0 = (l, ps, sc)) {i2 : Nat} {l2 : List Nat} {ps2 : List (List Nat)} {sc2 : Nat} (hyi : i2 < σ.1.length) (hydd : σ.1.getD i2 dk0 = (l2, ps2, sc2))  : aMet G mX6_alike 12 0 0 [.ref (q), .int (nI (i)), .int (nI (i2))] h nx (pQ (fun v h1 n1 => v = some (.int (nI (alk l l2 (min l.length l2.length)))) ∧ n1 = nx ∧ aOff h h1 q 204 ∧ HallAt h1 q σ)) := by
  have h4 := hσ.1
  have h5 := hσ.2.1
  refine aMet_of rfl (Nat.le_of_ble_eq_true rfl) ?_
  show aw G mX6_alike [] (aRoom 12 0 0) (aEnd G (pQ (fun v h1 n1 => v = some (.int (nI (alk l l2 (min l.length l2.length)))) ∧ n1 = nx ∧ aOff h h1 q 204 ∧ HallAt h1 q σ)) 0 0) 0 0 h nx 0 [(0, .ref (q)), (1, .int (nI (i))), (2, .int (nI (i2)))] []
  have hHc := hH
  obtain ⟨e1, e2, e3, ⟨z1, e4⟩, ⟨z2, e5⟩, ⟨z3, e6⟩, e7, e8⟩ := hHc
  refine aw_aload_n dX6_alike_0 rfl ?_
  refine aw_iload_n dX6_alike_1 rfl ?_
  have hxd := hσ.2.2.2.1 i hxi
  have hxD := e7 i (by omega)
  rw [hdd] at hxd hxD
  simp only [dkOk] at hxd
  obtain ⟨hxn, hxc, hxa, hxp, hxp4, hxs⟩ := hxd
  have hxD : DeckAt h (q + 12 + 45 * i) l ps sc := hxD
  refine aw_callVR (As := [.int (nI (i))]) (rest := []) (c_X6_needDeck G hH hxi h4) kX6_needDeck w_250 e1 rfl rfl rfl rfl (Nat.le_of_ble_eq_true rfl) dX6_alike_2 ⟨Nat.le_of_ble_eq_true rfl, Nat.le_of_ble_eq_true rfl⟩ ⟨Nat.le_of_ble_eq_true rfl, Nat.le_of_ble_eq_true rfl⟩ ?_
  refine aw_callVR (As := []) (rest := []) (c_X1_row G hxD) kX1_row w_214 hxD.1 rfl rfl rfl rfl (Nat.le_of_ble_eq_true rfl) dX6_alike_5 ⟨Nat.le_of_ble_eq_true rfl, Nat.le_of_ble_eq_true rfl⟩ ⟨Nat.le_of_ble_eq_true rfl, Nat.le_of_ble_eq_true rfl⟩ ?_
  have hxR := hxD.2.1
  obtain ⟨u_1f, u_1g, u_11, u_12, u_13, u_1l, u_1v⟩ := hxR
  refine aw_astore_n (L' := [(3, .ref (q + 12 + 45 * i + 1)), (0, .ref (q)), (1, .int (nI (i))), (2, .int (nI (i2)))]) dX6_alike_8 (by decide) rfl ?_
  refine aw_aload_n dX6_alike_9 rfl ?_
  refine aw_iload_n dX6_alike_10 rfl ?_
  have hyd := hσ.2.2.2.1 i2 hyi
  have hyD := e7 i2 (by omega)
  rw [hydd] at hyd hyD
  simp only [dkOk] at hyd
  obtain ⟨hyn, hyc, hya, hyp, hyp4, hys⟩ := hyd
  have hyD : DeckAt h (q + 12 + 45 * i2) l2 ps2 sc2 := hyD
  refine aw_callVR (As := [.int (nI (i2))]) (rest := []) (c_X6_needDeck G hH hyi h4) kX6_needDeck w_250 e1 rfl rfl rfl rfl (Nat.le_of_ble_eq_true rfl) dX6_alike_11 ⟨Nat.le_of_ble_eq_true rfl, Nat.le_of_ble_eq_true rfl⟩ ⟨Nat.le_of_ble_eq_true rfl, Nat.le_of_ble_eq_true rfl⟩ ?_
  refine aw_callVR (As := []) (rest := []) (c_X1_row G hyD) kX1_row w_214 hyD.1 rfl rfl rfl rfl (Nat.le_of_ble_eq_true rfl) dX6_alike_14 ⟨Nat.le_of_ble_eq_true rfl, Nat.le_of_ble_eq_true rfl⟩ ⟨Nat.le_of_ble_eq_true rfl, Nat.le_of_ble_eq_true rfl⟩ ?_
  have hyR := hyD.2.1
  obtain ⟨u_2f, u_2g, u_21, u_22, u_23, u_2l, u_2v⟩ := hyR
  refine aw_astore (L' := [(4, .ref (q + 12 + 45 * i2 + 1)), (3, .ref (q + 12 + 45 * i + 1)), (0, .ref (q)), (1, .int (nI (i))), (2, .int (nI (i2)))]) dX6_alike_17 (by decide) rfl ?_
  refine aw_aload_n dX6_alike_19 rfl ?_
  refine aw_callVR (As := []) (rest := []) (c_X3_size G hxD.2.1) kX3_size w_218 u_11 rfl rfl rfl rfl (Nat.le_of_ble_eq_true rfl) dX6_alike_20 ⟨Nat.le_of_ble_eq_true rfl, Nat.le_of_ble_eq_true rfl⟩ ⟨Nat.le_of_ble_eq_true rfl, Nat.le_of_ble_eq_true rfl⟩ ?_
  refine aw_aload dX6_alike_23 rfl ?_
  refine aw_callVR (As := []) (rest := [.int (nI (l.length))]) (c_X3_size G hyD.2.1) kX3_size w_218 u_21 rfl rfl rfl rfl (Nat.le_of_ble_eq_true rfl) dX6_alike_25 ⟨Nat.le_of_ble_eq_true rfl, Nat.le_of_ble_eq_true rfl⟩ ⟨Nat.le_of_ble_eq_true rfl, Nat.le_of_ble_eq_true rfl⟩ ?_
  refine aw_min w_451 w_282 w_16 w_283 (Nat.le_of_ble_eq_true rfl) (Nat.le_of_ble_eq_true rfl) (Nat.le_of_ble_eq_true rfl) (Nat.le_of_ble_eq_true rfl) dX6_alike_28 ?_
  refine aw_top (show (if (nI (l2.length)) < (nI (l.length)) then (nI (l2.length)) else (nI (l.length))) = (nI (min l.length l2.length)) from n_min _ _ (by omega) (by omega)) ?_
  refine aw_istore (L' := [(5, .int (nI (min l.length l2.length))), (4, .ref (q + 12 + 45 * i2 + 1)), (3, .ref (q + 12 + 45 * i + 1)), (0, .ref (q)), (1, .int (nI (i))), (2, .int (nI (i2)))]) dX6_alike_31 (by decide) rfl ?_
  refine aw_ic dX6_alike_33 ic_0 ?_
  refine aw_istore (L' := [(6, .int (nI (0))), (5, .int (nI (min l.length l2.length))), (4, .ref (q + 12 + 45 * i2 + 1)), (3, .ref (q + 12 + 45 * i + 1)), (0, .ref (q)), (1, .int (nI (i))), (2, .int (nI (i2)))]) dX6_alike_34 (by decide) rfl ?_
  refine aw_ic dX6_alike_36 ic_0 ?_
  refine aw_istore (L' := [(7, .int (nI (0))), (6, .int (nI (0))), (5, .int (nI (min l.length l2.length))), (4, .ref (q + 12 + 45 * i2 + 1)), (3, .ref (q + 12 + 45 * i + 1)), (0, .ref (q)), (1, .int (nI (i))), (2, .int (nI (i2)))]) dX6_alike_37 (by decide) rfl ?_
  have K : ∀ (d : Nat) (j t : Nat), min l.length l2.length - j < d → (j ≤ min l.length l2.length) → (t = alk l l2 j) → aw G mX6_alike [] (aRoom 12 0 0) (aEnd G (pQ (fun v h1 n1 => v = some (.int (nI (alk l l2 (min l.length l2.length)))) ∧ n1 = nx ∧ aOff h h1 q 204 ∧ HallAt h1 q σ)) 0 0) 0 0 h nx 39 [(0, .ref (q)), (1, .int (nI (i))), (2, .int (nI (i2))), (3, .ref (q + 12 + 45 * i + 1)), (4, .ref (q + 12 + 45 * i2 + 1)), (5, .int (nI (min l.length l2.length))), (6, .int (nI (t))), (7, .int (nI (j)))] [] := by
    intro d
    induction d with
    | zero => intro j t hMd; exact absurd hMd (Nat.not_lt_zero _)
    | succ d ih =>
      intro j t hMd hj ht
      refine aw_iload dX6_alike_39 rfl ?_
      refine aw_iload dX6_alike_41 rfl ?_
      refine aw_icmp_geN (tgt := 87) (by omega) (by omega) dX6_alike_43 (by decide) (fun c1 => ?_) (fun c1 => ?_)
      · skip
        have e9 : j = min l.length l2.length := by omega
        subst e9
        refine aw_iload dX6_alike_87 rfl ?_
        exact aw_ireturn dX6_alike_89 rfl ⟨_, rfl, by rw [ht], rfl, aOff.rf, hH⟩ (Nat.le_of_ble_eq_true rfl) (Nat.le_of_ble_eq_true rfl)
      · skip
        have q1 := hxc.2 j (by omega)
        have q2 := hyc.2 j (by omega)
        refine aw_aload_n dX6_alike_46 rfl ?_
        refine aw_iload dX6_alike_47 rfl ?_
        refine aw_callVR (As := [.int (nI (j))]) (rest := []) (c_X3_numberAt G hxD.2.1 (i := j) (by omega) (by omega)) kX3_numberAt w_350 u_11 rfl rfl rfl rfl (Nat.le_of_ble_eq_true rfl) dX6_alike_49 ⟨Nat.le_of_ble_eq_true rfl, Nat.le_of_ble_eq_true rfl⟩ ⟨Nat.le_of_ble_eq_true rfl, Nat.le_of_ble_eq_true rfl⟩ ?_
        refine aw_aload dX6_alike_52 rfl ?_
        refine aw_iload dX6_alike_54 rfl ?_
        refine aw_callVR (As := [.int (nI (j))]) (rest := [.int (nI (l.getD j 0 / 2))]) (c_X3_numberAt G hyD.2.1 (i := j) (by omega) (by omega)) kX3_numberAt w_350 u_21 rfl rfl rfl rfl (Nat.le_of_ble_eq_true rfl) dX6_alike_56 ⟨Nat.le_of_ble_eq_true rfl, Nat.le_of_ble_eq_true rfl⟩ ⟨Nat.le_of_ble_eq_true rfl, Nat.le_of_ble_eq_true rfl⟩ ?_
        refine aw_icmp_neN (tgt := 81) (by omega) (by omega) dX6_alike_59 (by decide) (fun c2 => ?_) (fun c2 => ?_)
        · skip
          refine aw_iincN (k := 1) (L' := [(7, .int (nI (j + 1))), (0, .ref (q)), (1, .int (nI (i))), (2, .int (nI (i2))), (3, .ref (q + 12 + 45 * i + 1)), (4, .ref (q + 12 + 45 * i2 + 1)), (5, .int (nI (min l.length l2.length))), (6, .int (nI (t)))]) dX6_alike_81 (by decide) rfl (by decide) rfl ?_
          refine aw_goto (tgt := 39) dX6_alike_84 (by decide) ?_
          refine aw_sub (L' := [(0, .ref (q)), (1, .int (nI (i))), (2, .int (nI (i2))), (3, .ref (q + 12 + 45 * i + 1)), (4, .ref (q + 12 + 45 * i2 + 1)), (5, .int (nI (min l.length l2.length))), (6, .int (nI (t))), (7, .int (nI (j + 1)))]) [1, 2, 3, 4, 5, 6, 7, 0] rfl ?_
          exact ih (j + 1) t (by omega) (by omega) (by rw [ht]; simp only [alk]; rw [if_neg (fun z => c2 z.1)]; rfl)
        · skip
          refine aw_aload_n dX6_alike_62 rfl ?_
          refine aw_iload dX6_alike_63 rfl ?_
          refine aw_callVR (As := [.int (nI (j))]) (rest := []) (c_X3_isTurnedAt G hxD.2.1 (i := j) (by omega) (by omega)) kX3_isTurnedAt w_357 u_11 rfl rfl rfl rfl (Nat.le_of_ble_eq_true rfl) dX6_alike_65 ⟨Nat.le_of_ble_eq_true rfl, Nat.le_of_ble_eq_true rfl⟩ ⟨Nat.le_of_ble_eq_true rfl, Nat.le_of_ble_eq_true rfl⟩ ?_
          refine aw_aload dX6_alike_68 rfl ?_
          refine aw_iload dX6_alike_70 rfl ?_
          refine aw_callVR (As := [.int (nI (j))]) (rest := [.int (bI (decide (l.getD j 0 % 2 = 1)))]) (c_X3_isTurnedAt G hyD.2.1 (i := j) (by omega) (by omega)) kX3_isTurnedAt w_357 u_21 rfl rfl rfl rfl (Nat.le_of_ble_eq_true rfl) dX6_alike_72 ⟨Nat.le_of_ble_eq_true rfl, Nat.le_of_ble_eq_true rfl⟩ ⟨Nat.le_of_ble_eq_true rfl, Nat.le_of_ble_eq_true rfl⟩ ?_
          have hbt : ∀ z : Bool, z.toNat < 2 := by decide
          have hb1 := hbt (decide (l.getD j 0 % 2 = 1))
          have hb2 := hbt (decide (l2.getD j 0 % 2 = 1))
          have hb : ∀ z1 z2 : Bool, z1.toNat = z2.toNat → z1 = z2 := by decide
          refine aw_icmp_neN (tgt := 81) (by omega) (by omega) dX6_alike_75 (by decide) (fun c3 => ?_) (fun c3 => ?_)
          · skip
            refine aw_iincN (k := 1) (L' := [(7, .int (nI (j + 1))), (0, .ref (q)), (1, .int (nI (i))), (2, .int (nI (i2))), (3, .ref (q + 12 + 45 * i + 1)), (4, .ref (q + 12 + 45 * i2 + 1)), (5, .int (nI (min l.length l2.length))), (6, .int (nI (t)))]) dX6_alike_81 (by decide) rfl (by decide) rfl ?_
            refine aw_goto (tgt := 39) dX6_alike_84 (by decide) ?_
            refine aw_sub (L' := [(0, .ref (q)), (1, .int (nI (i))), (2, .int (nI (i2))), (3, .ref (q + 12 + 45 * i + 1)), (4, .ref (q + 12 + 45 * i2 + 1)), (5, .int (nI (min l.length l2.length))), (6, .int (nI (t))), (7, .int (nI (j + 1)))]) [1, 2, 3, 4, 5, 6, 7, 0] rfl ?_
            exact ih (j + 1) t (by omega) (by omega) (by rw [ht]; simp only [alk]; rw [if_neg (fun z => c3 (by rw [z.2]))]; rfl)
          · skip
            refine aw_iincN (k := 1) (L' := [(6, .int (nI (t + 1))), (0, .ref (q)), (1, .int (nI (i))), (2, .int (nI (i2))), (3, .ref (q + 12 + 45 * i + 1)), (4, .ref (q + 12 + 45 * i2 + 1)), (5, .int (nI (min l.length l2.length))), (7, .int (nI (j)))]) dX6_alike_78 (by decide) rfl (by decide) rfl ?_
            refine aw_iincN (k := 1) (L' := [(7, .int (nI (j + 1))), (6, .int (nI (t + 1))), (0, .ref (q)), (1, .int (nI (i))), (2, .int (nI (i2))), (3, .ref (q + 12 + 45 * i + 1)), (4, .ref (q + 12 + 45 * i2 + 1)), (5, .int (nI (min l.length l2.length)))]) dX6_alike_81 (by decide) rfl (by decide) rfl ?_
            refine aw_goto (tgt := 39) dX6_alike_84 (by decide) ?_
            refine aw_sub (L' := [(0, .ref (q)), (1, .int (nI (i))), (2, .int (nI (i2))), (3, .ref (q + 12 + 45 * i + 1)), (4, .ref (q + 12 + 45 * i2 + 1)), (5, .int (nI (min l.length l2.length))), (6, .int (nI (t + 1))), (7, .int (nI (j + 1)))]) [2, 3, 4, 5, 6, 7, 1, 0] rfl ?_
            exact ih (j + 1) (t + 1) (by omega) (by omega) (by rw [ht]; simp only [alk]; rw [if_pos ⟨c2, hb _ _ c3⟩])
  refine aw_sub (L' := [(0, .ref (q)), (1, .int (nI (i))), (2, .int (nI (i2))), (3, .ref (q + 12 + 45 * i + 1)), (4, .ref (q + 12 + 45 * i2 + 1)), (5, .int (nI (min l.length l2.length))), (6, .int (nI (0))), (7, .int (nI (0)))]) [5, 6, 7, 4, 3, 2, 1, 0] rfl ?_
  exact K (min l.length l2.length + 1) 0 0 (by omega) (by omega) rfl
set_option maxHeartbeats 4000000 in
set_option maxRecDepth 20000 in
/-- ofSequence, asked rightly -/
theorem c_X6_ofSequence (G : aG) {h : aH} {nx q c : Nat} {σ : aSg} (hH : HallAt h q σ) (hσ : sgOk c σ) (hc9 : c ≤ 512) {i : Nat} {st : aSt} (hxi : i < σ.2.1.length) (hdd : σ.2.1.getD i [] = st) {u : Nat} (hwi : u ≤ st.length) : aMet G mX6_ofSequence 12 0 0 [.ref (q), .int (nI (i)), .int (nI (u))] h nx (pQ (fun v h1 n1 => v = some (.int (nI (ofSq st u))) ∧ n1 = nx ∧ aOff h h1 q 204 ∧ HallAt h1 q σ)) := by
  have h4 := hσ.1
  have h5 := hσ.2.1
  refine aMet_of rfl (Nat.le_of_ble_eq_true rfl) ?_
  show aw G mX6_ofSequence [] (aRoom 12 0 0) (aEnd G (pQ (fun v h1 n1 => v = some (.int (nI (ofSq st u))) ∧ n1 = nx ∧ aOff h h1 q 204 ∧ HallAt h1 q σ)) 0 0) 0 0 h nx 0 [(0, .ref (q)), (1, .int (nI (i))), (2, .int (nI (u)))] []
  have hHc := hH
  obtain ⟨e1, e2, e3, ⟨z1, e4⟩, ⟨z2, e5⟩, ⟨z3, e6⟩, e7, e8⟩ := hHc
  refine aw_aload_n dX6_ofSequence_0 rfl ?_
  refine aw_iload_n dX6_ofSequence_1 rfl ?_
  have hxd := hσ.2.2.2.2 i hxi
  have hxD := e8 i (by omega)
  rw [hdd] at hxd hxD
  refine aw_callVR (As := [.int (nI (i))]) (rest := []) (c_X6_needSequence G hH hxi h5) kX6_needSequence w_456 e1 rfl rfl rfl rfl (Nat.le_of_ble_eq_true rfl) dX6_ofSequence_2 ⟨Nat.le_of_ble_eq_true rfl, Nat.le_of_ble_eq_true rfl⟩ ⟨Nat.le_of_ble_eq_true rfl, Nat.le_of_ble_eq_true rfl⟩ ?_
  have hxE := hxD
  obtain ⟨s_1f, s_1g, s_11, s_12, s_13, s_1l, s_1v⟩ := hxE
  refine aw_astore_n (L' := [(3, .ref (q + 192 + 3 * i)), (0, .ref (q)), (1, .int (nI (i))), (2, .int (nI (u)))]) dX6_ofSequence_5 (by decide) rfl ?_
  refine aw_iload_n dX6_ofSequence_6 rfl ?_
  refine aw_aload_n dX6_ofSequence_7 rfl ?_
  refine aw_callVR (As := []) (rest := [.int (nI (u))]) (c_X4_length G hxD) kX4_length w_461 s_11 rfl rfl rfl rfl (Nat.le_of_ble_eq_true rfl) dX6_ofSequence_8 ⟨Nat.le_of_ble_eq_true rfl, Nat.le_of_ble_eq_true rfl⟩ ⟨Nat.le_of_ble_eq_true rfl, Nat.le_of_ble_eq_true rfl⟩ ?_
  have hst8 := hxd.1
  have hw := wIn_i hwi (show st.length < 2 ^ 31 by omega)
  refine aw_callSR (As := [.int (nI (u)), .int (nI (st.length))]) (rest := []) (c_X6_needWhat G (b := st.length) (by omega) hw) kX6_needWhat w_128 rfl rfl (Nat.le_of_ble_eq_true rfl) dX6_ofSequence_11 ⟨Nat.le_of_ble_eq_true rfl, Nat.le_of_ble_eq_true rfl⟩ ⟨Nat.le_of_ble_eq_true rfl, Nat.le_of_ble_eq_true rfl⟩ ?_
  refine aw_iload_n dX6_ofSequence_14 rfl ?_
  refine aw_if_neN (tgt := 23) (by omega) dX6_ofSequence_15 (by decide) (fun c1 => ?_) (fun c1 => ?_)
  · skip
    have hk := hxd.2 (u - 1) (by omega)
    refine aw_aload_n dX6_ofSequence_23 rfl ?_
    refine aw_iload_n dX6_ofSequence_24 rfl ?_
    refine aw_ic dX6_ofSequence_25 ic_1 ?_
    refine aw_isubN (by omega) dX6_ofSequence_26 ?_
    refine aw_callVR (As := [.int (nI (u - 1))]) (rest := []) (c_X4_kindAt G hxD (i := u - 1) (by omega)) kX4_kindAt w_465 s_11 rfl rfl rfl rfl (Nat.le_of_ble_eq_true rfl) dX6_ofSequence_27 ⟨Nat.le_of_ble_eq_true rfl, Nat.le_of_ble_eq_true rfl⟩ ⟨Nat.le_of_ble_eq_true rfl, Nat.le_of_ble_eq_true rfl⟩ ?_
    refine aw_ldc dX6_ofSequence_30 w_473 ?_
    refine aw_top (show (100000 : Int32) = nI 100000 by decide) ?_
    refine aw_imulN dX6_ofSequence_32 ?_
    refine aw_aload_n dX6_ofSequence_33 rfl ?_
    refine aw_iload_n dX6_ofSequence_34 rfl ?_
    refine aw_ic dX6_ofSequence_35 ic_1 ?_
    refine aw_isubN (by omega) dX6_ofSequence_36 ?_
    refine aw_callVR (As := [.int (nI (u - 1))]) (rest := [.int (nI (((st.getD (u - 1) (0, 0)).1) * 100000))]) (c_X4_numberAt G hxD (i := u - 1) (by omega)) kX4_numberAt w_474 s_11 rfl rfl rfl rfl (Nat.le_of_ble_eq_true rfl) dX6_ofSequence_37 ⟨Nat.le_of_ble_eq_true rfl, Nat.le_of_ble_eq_true rfl⟩ ⟨Nat.le_of_ble_eq_true rfl, Nat.le_of_ble_eq_true rfl⟩ ?_
    refine aw_ldc dX6_ofSequence_40 w_473 ?_
    refine aw_top (show (100000 : Int32) = nI 100000 by decide) ?_
    refine aw_iremN (by omega) (by omega) (by omega) dX6_ofSequence_42 ?_
    refine aw_iaddN dX6_ofSequence_43 ?_
    exact aw_ireturn dX6_ofSequence_44 rfl ⟨_, rfl, by unfold ofSq; rw [if_neg (show ¬ u = 0 by omega)], rfl, aOff.rf, hH⟩ (Nat.le_of_ble_eq_true rfl) (Nat.le_of_ble_eq_true rfl)
  · skip
    refine aw_aload_n dX6_ofSequence_18 rfl ?_
    refine aw_callVR (As := []) (rest := []) (c_X4_length G hxD) kX4_length w_461 s_11 rfl rfl rfl rfl (Nat.le_of_ble_eq_true rfl) dX6_ofSequence_19 ⟨Nat.le_of_ble_eq_true rfl, Nat.le_of_ble_eq_true rfl⟩ ⟨Nat.le_of_ble_eq_true rfl, Nat.le_of_ble_eq_true rfl⟩ ?_
    exact aw_ireturn dX6_ofSequence_22 rfl ⟨_, rfl, by unfold ofSq; rw [if_pos c1], rfl, aOff.rf, hH⟩ (Nat.le_of_ble_eq_true rfl) (Nat.le_of_ble_eq_true rfl)
set_option maxHeartbeats 4000000 in
set_option maxRecDepth 20000 in
/-- period, asked rightly -/
theorem c_X6_period (G : aG) {h : aH} {nx q c : Nat} {σ : aSg} (hH : HallAt h q σ) (hσ : sgOk c σ) (hc9 : c ≤ 512) {i : Nat} {st : aSt} (hxi : i < σ.2.1.length) (hdd : σ.2.1.getD i [] = st) {n : Nat} (hn : 2 ≤ n ∧ n ≤ 16) : aMet G mX6_period 12 0 0 [.ref (q), .int (nI (i)), .int (nI (n))] h nx (pQ (fun v h1 n1 => v = some (.int (perS st n)) ∧ n1 = nx ∧ aOff h h1 q 204 ∧ HallAt h1 q σ)) := by
  have h4 := hσ.1
  have h5 := hσ.2.1
  refine aMet_of rfl (Nat.le_of_ble_eq_true rfl) ?_
  show aw G mX6_period [] (aRoom 12 0 0) (aEnd G (pQ (fun v h1 n1 => v = some (.int (perS st n)) ∧ n1 = nx ∧ aOff h h1 q 204 ∧ HallAt h1 q σ)) 0 0) 0 0 h nx 0 [(0, .ref (q)), (1, .int (nI (i))), (2, .int (nI (n)))] []
  have hHc := hH
  obtain ⟨e1, e2, e3, ⟨z1, e4⟩, ⟨z2, e5⟩, ⟨z3, e6⟩, e7, e8⟩ := hHc
  refine aw_aload_n dX6_period_0 rfl ?_
  refine aw_iload_n dX6_period_1 rfl ?_
  have hxd := hσ.2.2.2.2 i hxi
  have hxD := e8 i (by omega)
  rw [hdd] at hxd hxD
  refine aw_callVR (As := [.int (nI (i))]) (rest := []) (c_X6_needSequence G hH hxi h5) kX6_needSequence w_456 e1 rfl rfl rfl rfl (Nat.le_of_ble_eq_true rfl) dX6_period_2 ⟨Nat.le_of_ble_eq_true rfl, Nat.le_of_ble_eq_true rfl⟩ ⟨Nat.le_of_ble_eq_true rfl, Nat.le_of_ble_eq_true rfl⟩ ?_
  have hxE := hxD
  obtain ⟨s_1f, s_1g, s_11, s_12, s_13, s_1l, s_1v⟩ := hxE
  refine aw_astore_n (L' := [(3, .ref (q + 192 + 3 * i)), (0, .ref (q)), (1, .int (nI (i))), (2, .int (nI (n)))]) dX6_period_5 (by decide) rfl ?_
  refine aw_iload_n dX6_period_6 rfl ?_
  have hw : wIn (nI n) 2 16 = true := by unfold wIn; rw [nI_toInt (by omega)]; exact decide_eq_true (by omega)
  refine aw_callSR (As := [.int (nI (n))]) (rest := []) (c_X6_isDeckSize G (nI n)) kX6_isDeckSize w_482 rfl rfl (Nat.le_of_ble_eq_true rfl) dX6_period_7 ⟨Nat.le_of_ble_eq_true rfl, Nat.le_of_ble_eq_true rfl⟩ ⟨Nat.le_of_ble_eq_true rfl, Nat.le_of_ble_eq_true rfl⟩ ?_
  refine aw_if_neB (tgt := 23) dX6_period_10 (by decide) (fun c1 => ?_) (fun c1 => absurd c1 (by rw [show decide (2 ≤ (nI n).toInt ∧ (nI n).toInt ≤ 16) = true from hw]; decide))
  refine aw_aload_n dX6_period_23 rfl ?_
  refine aw_aload_n dX6_period_24 rfl ?_
  refine aw_get 5 e1 rfl rfl (by decide) w_99 rfl dX6_period_25 ?_
  refine aw_aload_n dX6_period_28 rfl ?_
  refine aw_get 6 e1 rfl rfl (by decide) w_100 rfl dX6_period_29 ?_
  refine aw_iload_n dX6_period_32 rfl ?_
  refine aw_callVQ (As := [.ref (q + 3), .ref (q + 6), .int (nI (n))]) (rest := []) (c_X4_lay G hxD hxd e4 e5 hn (by omega)) kX4_lay w_484 s_11 rfl rfl rfl rfl (Nat.le_of_ble_eq_true rfl) dX6_period_33 ⟨Nat.le_of_ble_eq_true rfl, Nat.le_of_ble_eq_true rfl⟩ ⟨Nat.le_of_ble_eq_true rfl, Nat.le_of_ble_eq_true rfl⟩ (fun v_1 h_1 n_1 q_1 z_1 => ?_)
  obtain ⟨rfl, rfl, oL, hL2, y, hL, hLy⟩ := q_1
  have oL3 : ∀ a, (a < q + 3 ∨ q + 9 ≤ a) → h_1 a = h a := fun a ha => oL a (by omega) (by omega)
  cases hB : seqL st n with
  | none =>
    refine aw_if_neB (tgt := 41) dX6_period_36 (by decide) (fun c3 => absurd c3 (by decide)) (fun c3 => ?_)
    refine aw_iconst dX6_period_39 ic_m1 ?_
    exact aw_ireturn dX6_period_40 rfl ⟨_, rfl, by unfold perS; rw [hB], rfl, (fun a ha => oL3 a (by omega)), (hH.rows (fun a ha => oL3 a (by omega)) ⟨_, hL⟩ hL2 ⟨_, e6.keep (fun a g1 g2 => oL3 a (by omega))⟩)⟩ (Nat.le_of_ble_eq_true rfl) (Nat.le_of_ble_eq_true rfl)
  | some s =>
    have hys := hLy s hB
    subst hys
    refine aw_if_neB (tgt := 41) dX6_period_36 (by decide) (fun c3 => ?_) (fun c3 => absurd c3 (by simp))
    have f_1 := (oL3 q (by omega)).trans e1
    have hcy := seqL_cOk hB
    refine aw_aload_n dX6_period_41 rfl ?_
    refine aw_get 5 f_1 rfl rfl (by decide) w_99 rfl dX6_period_42 ?_
    refine aw_callSR (As := [.ref (q + 3)]) (rest := []) (c_X0_fullPeriod G hL hcy hn.2) kX0_fullPeriod w_498 rfl rfl (Nat.le_of_ble_eq_true rfl) dX6_period_45 ⟨Nat.le_of_ble_eq_true rfl, Nat.le_of_ble_eq_true rfl⟩ ⟨Nat.le_of_ble_eq_true rfl, Nat.le_of_ble_eq_true rfl⟩ ?_
    exact aw_ireturn dX6_period_48 rfl ⟨_, rfl, by unfold perS; rw [hB], rfl, (fun a ha => oL3 a (by omega)), (hH.rows (fun a ha => oL3 a (by omega)) ⟨_, hL⟩ hL2 ⟨_, e6.keep (fun a g1 g2 => oL3 a (by omega))⟩)⟩ (Nat.le_of_ble_eq_true rfl) (Nat.le_of_ble_eq_true rfl)
set_option maxHeartbeats 4000000 in
set_option maxRecDepth 20000 in
/-- alike -/
theorem p_X6_alike (G : aG) {h : aH} {nx q c : Nat} {σ : aSg} (hH : HallAt h q σ) (hσ : sgOk c σ) (hc9 : c ≤ 512) (x y : Int32) : aMet G mX6_alike 12 1 6 [.ref (q), .int (x), .int (y)] h nx (hPo h q nx (sAlike σ x y)) := by
  have h4 := hσ.1
  have h5 := hσ.2.1
  refine aMet_of rfl (Nat.le_of_ble_eq_true rfl) ?_
  show aw G mX6_alike [] (aRoom 12 1 6) (aEnd G (hPo h q nx (sAlike σ x y)) 1 6) 0 0 h nx 0 [(0, .ref (q)), (1, .int (x)), (2, .int (y))] []
  have hHc := hH
  obtain ⟨e1, e2, e3, ⟨z1, e4⟩, ⟨z2, e5⟩, ⟨z3, e6⟩, e7, e8⟩ := hHc
  refine aw_aload_n dX6_alike_0 rfl ?_
  refine aw_iload_n dX6_alike_1 rfl ?_
  by_cases hx : inD σ x = true
  rotate_left
  · skip
    have hs : sAlike σ x y = (.inr xIOB, σ) := by unfold sAlike; rw [if_neg hx]
    exact aw_callVT (As := [.int (x)]) (rest := []) (t_X6_needDeck G hH x h4 (bf hx)) kX6_needDeck w_250 e1 rfl rfl rfl rfl (Nat.le_of_ble_eq_true rfl) dX6_alike_2 ⟨Nat.le_of_ble_eq_true rfl, Nat.le_of_ble_eq_true rfl⟩ ⟨Nat.le_of_ble_eq_true rfl, Nat.le_of_ble_eq_true rfl⟩ (Nat.le_of_ble_eq_true rfl) (Nat.le_of_ble_eq_true rfl) (fun n1 hn1 => hPo_of hs hn1 aOff.rf hH)
  obtain ⟨i, hxi, rfl⟩ := in_of hx (by omega)
  have hxd := hσ.2.2.2.1 i hxi
  have hxD := e7 i (by omega)
  obtain ⟨⟨l, ps, sc⟩, hxq⟩ : ∃ d, d = σ.1.getD i dk0 := ⟨_, rfl⟩
  rw [← hxq] at hxd hxD
  have hxI : dkI σ (nI i) = (l, ps, sc) := (dkI_i (by omega)).trans hxq.symm
  simp only [dkOk] at hxd
  obtain ⟨hxn, hxc, hxa, hxp, hxp4, hxs⟩ := hxd
  have hxD : DeckAt h (q + 12 + 45 * i) l ps sc := hxD
  refine aw_callVR (As := [.int (nI (i))]) (rest := []) (c_X6_needDeck G hH hxi h4) kX6_needDeck w_250 e1 rfl rfl rfl rfl (Nat.le_of_ble_eq_true rfl) dX6_alike_2 ⟨Nat.le_of_ble_eq_true rfl, Nat.le_of_ble_eq_true rfl⟩ ⟨Nat.le_of_ble_eq_true rfl, Nat.le_of_ble_eq_true rfl⟩ ?_
  refine aw_callVR (As := []) (rest := []) (c_X1_row G hxD) kX1_row w_214 hxD.1 rfl rfl rfl rfl (Nat.le_of_ble_eq_true rfl) dX6_alike_5 ⟨Nat.le_of_ble_eq_true rfl, Nat.le_of_ble_eq_true rfl⟩ ⟨Nat.le_of_ble_eq_true rfl, Nat.le_of_ble_eq_true rfl⟩ ?_
  have hxR := hxD.2.1
  obtain ⟨u_1f, u_1g, u_11, u_12, u_13, u_1l, u_1v⟩ := hxR
  refine aw_astore_n (L' := [(3, .ref (q + 12 + 45 * i + 1)), (0, .ref (q)), (1, .int (nI (i))), (2, .int (y))]) dX6_alike_8 (by decide) rfl ?_
  refine aw_aload_n dX6_alike_9 rfl ?_
  refine aw_iload_n dX6_alike_10 rfl ?_
  by_cases hy : inD σ y = true
  rotate_left
  · skip
    have hs : sAlike σ (nI i) y = (.inr xIOB, σ) := by unfold sAlike; rw [if_pos hx, if_neg hy]
    exact aw_callVT (As := [.int (y)]) (rest := []) (t_X6_needDeck G hH y h4 (bf hy)) kX6_needDeck w_250 e1 rfl rfl rfl rfl (Nat.le_of_ble_eq_true rfl) dX6_alike_11 ⟨Nat.le_of_ble_eq_true rfl, Nat.le_of_ble_eq_true rfl⟩ ⟨Nat.le_of_ble_eq_true rfl, Nat.le_of_ble_eq_true rfl⟩ (Nat.le_of_ble_eq_true rfl) (Nat.le_of_ble_eq_true rfl) (fun n1 hn1 => hPo_of hs hn1 aOff.rf hH)
  obtain ⟨i2, hyi, rfl⟩ := in_of hy (by omega)
  have hyd := hσ.2.2.2.1 i2 hyi
  have hyD := e7 i2 (by omega)
  obtain ⟨⟨l2, ps2, sc2⟩, hyq⟩ : ∃ d, d = σ.1.getD i2 dk0 := ⟨_, rfl⟩
  rw [← hyq] at hyd hyD
  have hyI : dkI σ (nI i2) = (l2, ps2, sc2) := (dkI_i (by omega)).trans hyq.symm
  simp only [dkOk] at hyd
  obtain ⟨hyn, hyc, hya, hyp, hyp4, hys⟩ := hyd
  have hyD : DeckAt h (q + 12 + 45 * i2) l2 ps2 sc2 := hyD
  refine aw_callVR (As := [.int (nI (i2))]) (rest := []) (c_X6_needDeck G hH hyi h4) kX6_needDeck w_250 e1 rfl rfl rfl rfl (Nat.le_of_ble_eq_true rfl) dX6_alike_11 ⟨Nat.le_of_ble_eq_true rfl, Nat.le_of_ble_eq_true rfl⟩ ⟨Nat.le_of_ble_eq_true rfl, Nat.le_of_ble_eq_true rfl⟩ ?_
  refine aw_callVR (As := []) (rest := []) (c_X1_row G hyD) kX1_row w_214 hyD.1 rfl rfl rfl rfl (Nat.le_of_ble_eq_true rfl) dX6_alike_14 ⟨Nat.le_of_ble_eq_true rfl, Nat.le_of_ble_eq_true rfl⟩ ⟨Nat.le_of_ble_eq_true rfl, Nat.le_of_ble_eq_true rfl⟩ ?_
  have hyR := hyD.2.1
  obtain ⟨u_2f, u_2g, u_21, u_22, u_23, u_2l, u_2v⟩ := hyR
  refine aw_astore (L' := [(4, .ref (q + 12 + 45 * i2 + 1)), (3, .ref (q + 12 + 45 * i + 1)), (0, .ref (q)), (1, .int (nI (i))), (2, .int (nI (i2)))]) dX6_alike_17 (by decide) rfl ?_
  refine aw_aload_n dX6_alike_19 rfl ?_
  refine aw_callVR (As := []) (rest := []) (c_X3_size G hxD.2.1) kX3_size w_218 u_11 rfl rfl rfl rfl (Nat.le_of_ble_eq_true rfl) dX6_alike_20 ⟨Nat.le_of_ble_eq_true rfl, Nat.le_of_ble_eq_true rfl⟩ ⟨Nat.le_of_ble_eq_true rfl, Nat.le_of_ble_eq_true rfl⟩ ?_
  refine aw_aload dX6_alike_23 rfl ?_
  refine aw_callVR (As := []) (rest := [.int (nI (l.length))]) (c_X3_size G hyD.2.1) kX3_size w_218 u_21 rfl rfl rfl rfl (Nat.le_of_ble_eq_true rfl) dX6_alike_25 ⟨Nat.le_of_ble_eq_true rfl, Nat.le_of_ble_eq_true rfl⟩ ⟨Nat.le_of_ble_eq_true rfl, Nat.le_of_ble_eq_true rfl⟩ ?_
  refine aw_min w_451 w_282 w_16 w_283 (Nat.le_of_ble_eq_true rfl) (Nat.le_of_ble_eq_true rfl) (Nat.le_of_ble_eq_true rfl) (Nat.le_of_ble_eq_true rfl) dX6_alike_28 ?_
  refine aw_top (show (if (nI (l2.length)) < (nI (l.length)) then (nI (l2.length)) else (nI (l.length))) = (nI (min l.length l2.length)) from n_min _ _ (by omega) (by omega)) ?_
  refine aw_istore (L' := [(5, .int (nI (min l.length l2.length))), (4, .ref (q + 12 + 45 * i2 + 1)), (3, .ref (q + 12 + 45 * i + 1)), (0, .ref (q)), (1, .int (nI (i))), (2, .int (nI (i2)))]) dX6_alike_31 (by decide) rfl ?_
  refine aw_ic dX6_alike_33 ic_0 ?_
  refine aw_istore (L' := [(6, .int (nI (0))), (5, .int (nI (min l.length l2.length))), (4, .ref (q + 12 + 45 * i2 + 1)), (3, .ref (q + 12 + 45 * i + 1)), (0, .ref (q)), (1, .int (nI (i))), (2, .int (nI (i2)))]) dX6_alike_34 (by decide) rfl ?_
  refine aw_ic dX6_alike_36 ic_0 ?_
  refine aw_istore (L' := [(7, .int (nI (0))), (6, .int (nI (0))), (5, .int (nI (min l.length l2.length))), (4, .ref (q + 12 + 45 * i2 + 1)), (3, .ref (q + 12 + 45 * i + 1)), (0, .ref (q)), (1, .int (nI (i))), (2, .int (nI (i2)))]) dX6_alike_37 (by decide) rfl ?_
  have K : ∀ (d : Nat) (j t : Nat), min l.length l2.length - j < d → (j ≤ min l.length l2.length) → (t = alk l l2 j) → aw G mX6_alike [] (aRoom 12 1 6) (aEnd G (hPo h q nx (sAlike σ (nI i) (nI i2))) 1 6) 0 0 h nx 39 [(0, .ref (q)), (1, .int (nI (i))), (2, .int (nI (i2))), (3, .ref (q + 12 + 45 * i + 1)), (4, .ref (q + 12 + 45 * i2 + 1)), (5, .int (nI (min l.length l2.length))), (6, .int (nI (t))), (7, .int (nI (j)))] [] := by
    intro d
    induction d with
    | zero => intro j t hMd; exact absurd hMd (Nat.not_lt_zero _)
    | succ d ih =>
      intro j t hMd hj ht
      refine aw_iload dX6_alike_39 rfl ?_
      refine aw_iload dX6_alike_41 rfl ?_
      refine aw_icmp_geN (tgt := 87) (by omega) (by omega) dX6_alike_43 (by decide) (fun c1 => ?_) (fun c1 => ?_)
      · skip
        have e9 : j = min l.length l2.length := by omega
        subst e9
        refine aw_iload dX6_alike_87 rfl ?_
        have hs : sAlike σ (nI i) (nI i2) = (.inl (some (.int (nI t))), σ) := by unfold sAlike; rw [if_pos hx, if_pos hy, hxI, hyI, ht]
        exact aw_ireturn dX6_alike_89 rfl (hPo_of hs (Nat.le_refl _) aOff.rf hH) (Nat.le_of_ble_eq_true rfl) (Nat.le_of_ble_eq_true rfl)
      · skip
        have q1 := hxc.2 j (by omega)
        have q2 := hyc.2 j (by omega)
        refine aw_aload_n dX6_alike_46 rfl ?_
        refine aw_iload dX6_alike_47 rfl ?_
        refine aw_callVR (As := [.int (nI (j))]) (rest := []) (c_X3_numberAt G hxD.2.1 (i := j) (by omega) (by omega)) kX3_numberAt w_350 u_11 rfl rfl rfl rfl (Nat.le_of_ble_eq_true rfl) dX6_alike_49 ⟨Nat.le_of_ble_eq_true rfl, Nat.le_of_ble_eq_true rfl⟩ ⟨Nat.le_of_ble_eq_true rfl, Nat.le_of_ble_eq_true rfl⟩ ?_
        refine aw_aload dX6_alike_52 rfl ?_
        refine aw_iload dX6_alike_54 rfl ?_
        refine aw_callVR (As := [.int (nI (j))]) (rest := [.int (nI (l.getD j 0 / 2))]) (c_X3_numberAt G hyD.2.1 (i := j) (by omega) (by omega)) kX3_numberAt w_350 u_21 rfl rfl rfl rfl (Nat.le_of_ble_eq_true rfl) dX6_alike_56 ⟨Nat.le_of_ble_eq_true rfl, Nat.le_of_ble_eq_true rfl⟩ ⟨Nat.le_of_ble_eq_true rfl, Nat.le_of_ble_eq_true rfl⟩ ?_
        refine aw_icmp_neN (tgt := 81) (by omega) (by omega) dX6_alike_59 (by decide) (fun c2 => ?_) (fun c2 => ?_)
        · skip
          refine aw_iincN (k := 1) (L' := [(7, .int (nI (j + 1))), (0, .ref (q)), (1, .int (nI (i))), (2, .int (nI (i2))), (3, .ref (q + 12 + 45 * i + 1)), (4, .ref (q + 12 + 45 * i2 + 1)), (5, .int (nI (min l.length l2.length))), (6, .int (nI (t)))]) dX6_alike_81 (by decide) rfl (by decide) rfl ?_
          refine aw_goto (tgt := 39) dX6_alike_84 (by decide) ?_
          refine aw_sub (L' := [(0, .ref (q)), (1, .int (nI (i))), (2, .int (nI (i2))), (3, .ref (q + 12 + 45 * i + 1)), (4, .ref (q + 12 + 45 * i2 + 1)), (5, .int (nI (min l.length l2.length))), (6, .int (nI (t))), (7, .int (nI (j + 1)))]) [1, 2, 3, 4, 5, 6, 7, 0] rfl ?_
          exact ih (j + 1) t (by omega) (by omega) (by rw [ht]; simp only [alk]; rw [if_neg (fun z => c2 z.1)]; rfl)
        · skip
          refine aw_aload_n dX6_alike_62 rfl ?_
          refine aw_iload dX6_alike_63 rfl ?_
          refine aw_callVR (As := [.int (nI (j))]) (rest := []) (c_X3_isTurnedAt G hxD.2.1 (i := j) (by omega) (by omega)) kX3_isTurnedAt w_357 u_11 rfl rfl rfl rfl (Nat.le_of_ble_eq_true rfl) dX6_alike_65 ⟨Nat.le_of_ble_eq_true rfl, Nat.le_of_ble_eq_true rfl⟩ ⟨Nat.le_of_ble_eq_true rfl, Nat.le_of_ble_eq_true rfl⟩ ?_
          refine aw_aload dX6_alike_68 rfl ?_
          refine aw_iload dX6_alike_70 rfl ?_
          refine aw_callVR (As := [.int (nI (j))]) (rest := [.int (bI (decide (l.getD j 0 % 2 = 1)))]) (c_X3_isTurnedAt G hyD.2.1 (i := j) (by omega) (by omega)) kX3_isTurnedAt w_357 u_21 rfl rfl rfl rfl (Nat.le_of_ble_eq_true rfl) dX6_alike_72 ⟨Nat.le_of_ble_eq_true rfl, Nat.le_of_ble_eq_true rfl⟩ ⟨Nat.le_of_ble_eq_true rfl, Nat.le_of_ble_eq_true rfl⟩ ?_
          have hbt : ∀ z : Bool, z.toNat < 2 := by decide
          have hb1 := hbt (decide (l.getD j 0 % 2 = 1))
          have hb2 := hbt (decide (l2.getD j 0 % 2 = 1))
          have hb : ∀ z1 z2 : Bool, z1.toNat = z2.toNat → z1 = z2 := by decide
          refine aw_icmp_neN (tgt := 81) (by omega) (by omega) dX6_alike_75 (by decide) (fun c3 => ?_) (fun c3 => ?_)
          · skip
            refine aw_iincN (k := 1) (L' := [(7, .int (nI (j + 1))), (0, .ref (q)), (1, .int (nI (i))), (2, .int (nI (i2))), (3, .ref (q + 12 + 45 * i + 1)), (4, .ref (q + 12 + 45 * i2 + 1)), (5, .int (nI (min l.length l2.length))), (6, .int (nI (t)))]) dX6_alike_81 (by decide) rfl (by decide) rfl ?_
            refine aw_goto (tgt := 39) dX6_alike_84 (by decide) ?_
            refine aw_sub (L' := [(0, .ref (q)), (1, .int (nI (i))), (2, .int (nI (i2))), (3, .ref (q + 12 + 45 * i + 1)), (4, .ref (q + 12 + 45 * i2 + 1)), (5, .int (nI (min l.length l2.length))), (6, .int (nI (t))), (7, .int (nI (j + 1)))]) [1, 2, 3, 4, 5, 6, 7, 0] rfl ?_
            exact ih (j + 1) t (by omega) (by omega) (by rw [ht]; simp only [alk]; rw [if_neg (fun z => c3 (by rw [z.2]))]; rfl)
          · skip
            refine aw_iincN (k := 1) (L' := [(6, .int (nI (t + 1))), (0, .ref (q)), (1, .int (nI (i))), (2, .int (nI (i2))), (3, .ref (q + 12 + 45 * i + 1)), (4, .ref (q + 12 + 45 * i2 + 1)), (5, .int (nI (min l.length l2.length))), (7, .int (nI (j)))]) dX6_alike_78 (by decide) rfl (by decide) rfl ?_
            refine aw_iincN (k := 1) (L' := [(7, .int (nI (j + 1))), (6, .int (nI (t + 1))), (0, .ref (q)), (1, .int (nI (i))), (2, .int (nI (i2))), (3, .ref (q + 12 + 45 * i + 1)), (4, .ref (q + 12 + 45 * i2 + 1)), (5, .int (nI (min l.length l2.length)))]) dX6_alike_81 (by decide) rfl (by decide) rfl ?_
            refine aw_goto (tgt := 39) dX6_alike_84 (by decide) ?_
            refine aw_sub (L' := [(0, .ref (q)), (1, .int (nI (i))), (2, .int (nI (i2))), (3, .ref (q + 12 + 45 * i + 1)), (4, .ref (q + 12 + 45 * i2 + 1)), (5, .int (nI (min l.length l2.length))), (6, .int (nI (t + 1))), (7, .int (nI (j + 1)))]) [2, 3, 4, 5, 6, 7, 1, 0] rfl ?_
            exact ih (j + 1) (t + 1) (by omega) (by omega) (by rw [ht]; simp only [alk]; rw [if_pos ⟨c2, hb _ _ c3⟩])
  refine aw_sub (L' := [(0, .ref (q)), (1, .int (nI (i))), (2, .int (nI (i2))), (3, .ref (q + 12 + 45 * i + 1)), (4, .ref (q + 12 + 45 * i2 + 1)), (5, .int (nI (min l.length l2.length))), (6, .int (nI (0))), (7, .int (nI (0)))]) [5, 6, 7, 4, 3, 2, 1, 0] rfl ?_
  exact K (min l.length l2.length + 1) 0 0 (by omega) (by omega) rfl
set_option maxHeartbeats 4000000 in
set_option maxRecDepth 20000 in
/-- ofSequence -/
theorem p_X6_ofSequence (G : aG) {h : aH} {nx q c : Nat} {σ : aSg} (hH : HallAt h q σ) (hσ : sgOk c σ) (hc9 : c ≤ 512) (x w : Int32) : aMet G mX6_ofSequence 12 1 6 [.ref (q), .int (x), .int (w)] h nx (hPo h q nx (sOfSeq σ x w)) := by
  have h4 := hσ.1
  have h5 := hσ.2.1
  refine aMet_of rfl (Nat.le_of_ble_eq_true rfl) ?_
  show aw G mX6_ofSequence [] (aRoom 12 1 6) (aEnd G (hPo h q nx (sOfSeq σ x w)) 1 6) 0 0 h nx 0 [(0, .ref (q)), (1, .int (x)), (2, .int (w))] []
  have hHc := hH
  obtain ⟨e1, e2, e3, ⟨z1, e4⟩, ⟨z2, e5⟩, ⟨z3, e6⟩, e7, e8⟩ := hHc
  refine aw_aload_n dX6_ofSequence_0 rfl ?_
  refine aw_iload_n dX6_ofSequence_1 rfl ?_
  by_cases hx : inS σ x = true
  rotate_left
  · skip
    have hs : sOfSeq σ x w = (.inr xIOB, σ) := by unfold sOfSeq; rw [if_neg hx]
    exact aw_callVT (As := [.int (x)]) (rest := []) (t_X6_needSequence G hH x h5 (bf hx)) kX6_needSequence w_456 e1 rfl rfl rfl rfl (Nat.le_of_ble_eq_true rfl) dX6_ofSequence_2 ⟨Nat.le_of_ble_eq_true rfl, Nat.le_of_ble_eq_true rfl⟩ ⟨Nat.le_of_ble_eq_true rfl, Nat.le_of_ble_eq_true rfl⟩ (Nat.le_of_ble_eq_true rfl) (Nat.le_of_ble_eq_true rfl) (fun n1 hn1 => hPo_of hs hn1 aOff.rf hH)
  obtain ⟨i, hxi, rfl⟩ := in_of hx (by omega)
  have hxd := hσ.2.2.2.2 i hxi
  have hxD := e8 i (by omega)
  obtain ⟨st, hxq⟩ : ∃ d, d = σ.2.1.getD i [] := ⟨_, rfl⟩
  rw [← hxq] at hxd hxD
  have hxI : sqI σ (nI i) = st := (sqI_i (by omega)).trans hxq.symm
  refine aw_callVR (As := [.int (nI (i))]) (rest := []) (c_X6_needSequence G hH hxi h5) kX6_needSequence w_456 e1 rfl rfl rfl rfl (Nat.le_of_ble_eq_true rfl) dX6_ofSequence_2 ⟨Nat.le_of_ble_eq_true rfl, Nat.le_of_ble_eq_true rfl⟩ ⟨Nat.le_of_ble_eq_true rfl, Nat.le_of_ble_eq_true rfl⟩ ?_
  have hxE := hxD
  obtain ⟨s_1f, s_1g, s_11, s_12, s_13, s_1l, s_1v⟩ := hxE
  refine aw_astore_n (L' := [(3, .ref (q + 192 + 3 * i)), (0, .ref (q)), (1, .int (nI (i))), (2, .int (w))]) dX6_ofSequence_5 (by decide) rfl ?_
  refine aw_iload_n dX6_ofSequence_6 rfl ?_
  refine aw_aload_n dX6_ofSequence_7 rfl ?_
  refine aw_callVR (As := []) (rest := [.int (w)]) (c_X4_length G hxD) kX4_length w_461 s_11 rfl rfl rfl rfl (Nat.le_of_ble_eq_true rfl) dX6_ofSequence_8 ⟨Nat.le_of_ble_eq_true rfl, Nat.le_of_ble_eq_true rfl⟩ ⟨Nat.le_of_ble_eq_true rfl, Nat.le_of_ble_eq_true rfl⟩ ?_
  have hst8 := hxd.1
  by_cases hw : wIn w 0 st.length = true
  rotate_left
  · skip
    have hs : sOfSeq σ (nI i) w = (.inr xIAE, σ) := by unfold sOfSeq; rw [if_pos hx, hxI]; exact if_neg hw
    exact aw_callST (As := [.int (w), .int (nI (st.length))]) (rest := []) (t_X6_needWhat G (b := st.length) (by omega) (bf hw)) kX6_needWhat w_128 rfl rfl (Nat.le_of_ble_eq_true rfl) dX6_ofSequence_11 ⟨Nat.le_of_ble_eq_true rfl, Nat.le_of_ble_eq_true rfl⟩ ⟨Nat.le_of_ble_eq_true rfl, Nat.le_of_ble_eq_true rfl⟩ (Nat.le_of_ble_eq_true rfl) (Nat.le_of_ble_eq_true rfl) (fun n1 hn1 => hPo_of hs hn1 aOff.rf hH)
  refine aw_callSR (As := [.int (w), .int (nI (st.length))]) (rest := []) (c_X6_needWhat G (b := st.length) (by omega) hw) kX6_needWhat w_128 rfl rfl (Nat.le_of_ble_eq_true rfl) dX6_ofSequence_11 ⟨Nat.le_of_ble_eq_true rfl, Nat.le_of_ble_eq_true rfl⟩ ⟨Nat.le_of_ble_eq_true rfl, Nat.le_of_ble_eq_true rfl⟩ ?_
  obtain ⟨u, -, hwi, rfl⟩ := wIn_nat (a := 0) (b := st.length) hw (by omega)
  refine aw_iload_n dX6_ofSequence_14 rfl ?_
  refine aw_if_neN (tgt := 23) (by omega) dX6_ofSequence_15 (by decide) (fun c1 => ?_) (fun c1 => ?_)
  · skip
    have hk := hxd.2 (u - 1) (by omega)
    refine aw_aload_n dX6_ofSequence_23 rfl ?_
    refine aw_iload_n dX6_ofSequence_24 rfl ?_
    refine aw_ic dX6_ofSequence_25 ic_1 ?_
    refine aw_isubN (by omega) dX6_ofSequence_26 ?_
    refine aw_callVR (As := [.int (nI (u - 1))]) (rest := []) (c_X4_kindAt G hxD (i := u - 1) (by omega)) kX4_kindAt w_465 s_11 rfl rfl rfl rfl (Nat.le_of_ble_eq_true rfl) dX6_ofSequence_27 ⟨Nat.le_of_ble_eq_true rfl, Nat.le_of_ble_eq_true rfl⟩ ⟨Nat.le_of_ble_eq_true rfl, Nat.le_of_ble_eq_true rfl⟩ ?_
    refine aw_ldc dX6_ofSequence_30 w_473 ?_
    refine aw_top (show (100000 : Int32) = nI 100000 by decide) ?_
    refine aw_imulN dX6_ofSequence_32 ?_
    refine aw_aload_n dX6_ofSequence_33 rfl ?_
    refine aw_iload_n dX6_ofSequence_34 rfl ?_
    refine aw_ic dX6_ofSequence_35 ic_1 ?_
    refine aw_isubN (by omega) dX6_ofSequence_36 ?_
    refine aw_callVR (As := [.int (nI (u - 1))]) (rest := [.int (nI (((st.getD (u - 1) (0, 0)).1) * 100000))]) (c_X4_numberAt G hxD (i := u - 1) (by omega)) kX4_numberAt w_474 s_11 rfl rfl rfl rfl (Nat.le_of_ble_eq_true rfl) dX6_ofSequence_37 ⟨Nat.le_of_ble_eq_true rfl, Nat.le_of_ble_eq_true rfl⟩ ⟨Nat.le_of_ble_eq_true rfl, Nat.le_of_ble_eq_true rfl⟩ ?_
    refine aw_ldc dX6_ofSequence_40 w_473 ?_
    refine aw_top (show (100000 : Int32) = nI 100000 by decide) ?_
    refine aw_iremN (by omega) (by omega) (by omega) dX6_ofSequence_42 ?_
    refine aw_iaddN dX6_ofSequence_43 ?_
    have hs : sOfSeq σ (nI i) (nI u) = (.inl (some (.int (nI ((st.getD (u - 1) (0, 0)).1 * 100000 + (st.getD (u - 1) (0, 0)).2 % 100000)))), σ) := by unfold sOfSeq; rw [if_pos hx, hxI, if_pos hw, nI_nat (by omega)]; unfold ofSq; rw [if_neg (show ¬ u = 0 by omega)]
    exact aw_ireturn dX6_ofSequence_44 rfl (hPo_of hs (Nat.le_refl _) aOff.rf hH) (Nat.le_of_ble_eq_true rfl) (Nat.le_of_ble_eq_true rfl)
  · skip
    refine aw_aload_n dX6_ofSequence_18 rfl ?_
    refine aw_callVR (As := []) (rest := []) (c_X4_length G hxD) kX4_length w_461 s_11 rfl rfl rfl rfl (Nat.le_of_ble_eq_true rfl) dX6_ofSequence_19 ⟨Nat.le_of_ble_eq_true rfl, Nat.le_of_ble_eq_true rfl⟩ ⟨Nat.le_of_ble_eq_true rfl, Nat.le_of_ble_eq_true rfl⟩ ?_
    have hs : sOfSeq σ (nI i) (nI u) = (.inl (some (.int (nI st.length))), σ) := by unfold sOfSeq; rw [if_pos hx, hxI, if_pos hw, nI_nat (by omega)]; unfold ofSq; rw [if_pos c1]
    exact aw_ireturn dX6_ofSequence_22 rfl (hPo_of hs (Nat.le_refl _) aOff.rf hH) (Nat.le_of_ble_eq_true rfl) (Nat.le_of_ble_eq_true rfl)
set_option maxHeartbeats 4000000 in
set_option maxRecDepth 20000 in
/-- period -/
theorem p_X6_period (G : aG) {h : aH} {nx q c : Nat} {σ : aSg} (hH : HallAt h q σ) (hσ : sgOk c σ) (hc9 : c ≤ 512) (x y : Int32) : aMet G mX6_period 12 1 6 [.ref (q), .int (x), .int (y)] h nx (hPo h q nx (sPeriod σ x y)) := by
  have h4 := hσ.1
  have h5 := hσ.2.1
  refine aMet_of rfl (Nat.le_of_ble_eq_true rfl) ?_
  show aw G mX6_period [] (aRoom 12 1 6) (aEnd G (hPo h q nx (sPeriod σ x y)) 1 6) 0 0 h nx 0 [(0, .ref (q)), (1, .int (x)), (2, .int (y))] []
  have hHc := hH
  obtain ⟨e1, e2, e3, ⟨z1, e4⟩, ⟨z2, e5⟩, ⟨z3, e6⟩, e7, e8⟩ := hHc
  refine aw_aload_n dX6_period_0 rfl ?_
  refine aw_iload_n dX6_period_1 rfl ?_
  by_cases hx : inS σ x = true
  rotate_left
  · skip
    have hs : sPeriod σ x y = (.inr xIOB, σ) := by unfold sPeriod; rw [if_neg hx]
    exact aw_callVT (As := [.int (x)]) (rest := []) (t_X6_needSequence G hH x h5 (bf hx)) kX6_needSequence w_456 e1 rfl rfl rfl rfl (Nat.le_of_ble_eq_true rfl) dX6_period_2 ⟨Nat.le_of_ble_eq_true rfl, Nat.le_of_ble_eq_true rfl⟩ ⟨Nat.le_of_ble_eq_true rfl, Nat.le_of_ble_eq_true rfl⟩ (Nat.le_of_ble_eq_true rfl) (Nat.le_of_ble_eq_true rfl) (fun n1 hn1 => hPo_of hs hn1 aOff.rf hH)
  obtain ⟨i, hxi, rfl⟩ := in_of hx (by omega)
  have hxd := hσ.2.2.2.2 i hxi
  have hxD := e8 i (by omega)
  obtain ⟨st, hxq⟩ : ∃ d, d = σ.2.1.getD i [] := ⟨_, rfl⟩
  rw [← hxq] at hxd hxD
  have hxI : sqI σ (nI i) = st := (sqI_i (by omega)).trans hxq.symm
  refine aw_callVR (As := [.int (nI (i))]) (rest := []) (c_X6_needSequence G hH hxi h5) kX6_needSequence w_456 e1 rfl rfl rfl rfl (Nat.le_of_ble_eq_true rfl) dX6_period_2 ⟨Nat.le_of_ble_eq_true rfl, Nat.le_of_ble_eq_true rfl⟩ ⟨Nat.le_of_ble_eq_true rfl, Nat.le_of_ble_eq_true rfl⟩ ?_
  have hxE := hxD
  obtain ⟨s_1f, s_1g, s_11, s_12, s_13, s_1l, s_1v⟩ := hxE
  refine aw_astore_n (L' := [(3, .ref (q + 192 + 3 * i)), (0, .ref (q)), (1, .int (nI (i))), (2, .int (y))]) dX6_period_5 (by decide) rfl ?_
  refine aw_iload_n dX6_period_6 rfl ?_
  by_cases hw : wIn y 2 16 = true
  rotate_left
  · skip
    have hs : sPeriod σ (nI i) y = (.inr xIAE, σ) := by unfold sPeriod; rw [if_pos hx]; exact if_neg hw
    refine aw_callSR (As := [.int (y)]) (rest := []) (c_X6_isDeckSize G y) kX6_isDeckSize w_482 rfl rfl (Nat.le_of_ble_eq_true rfl) dX6_period_7 ⟨Nat.le_of_ble_eq_true rfl, Nat.le_of_ble_eq_true rfl⟩ ⟨Nat.le_of_ble_eq_true rfl, Nat.le_of_ble_eq_true rfl⟩ ?_
    refine aw_if_neB (tgt := 23) dX6_period_10 (by decide) (fun c1 => absurd c1 (by rw [show decide (2 ≤ y.toInt ∧ y.toInt ≤ 16) = false from bf hw]; decide)) (fun c1 => ?_)
    exact aw_throw (E := xIAE) (text := "cards is not 2 to 16") (names := xNs) (by decide +kernel) xNs_fit w_134 w_12 (by decide +kernel) at_IAE dX6_period_13 dX6_period_16 dX6_period_17 dX6_period_19 dX6_period_22 (fun x hx => absurd hx List.not_mem_nil) (by decide) (by decide) (Nat.le_of_ble_eq_true rfl) (Nat.le_of_ble_eq_true rfl) (fun n1 hn1 => hPo_of hs hn1 aOff.rf hH) (Nat.le_of_ble_eq_true rfl) (Nat.le_of_ble_eq_true rfl)
  obtain ⟨n, hn1, hn2, rfl⟩ := wIn_nat (a := 2) (b := 16) hw (by omega)
  have hn : 2 ≤ n ∧ n ≤ 16 := ⟨hn1, hn2⟩
  refine aw_callSR (As := [.int (nI (n))]) (rest := []) (c_X6_isDeckSize G (nI n)) kX6_isDeckSize w_482 rfl rfl (Nat.le_of_ble_eq_true rfl) dX6_period_7 ⟨Nat.le_of_ble_eq_true rfl, Nat.le_of_ble_eq_true rfl⟩ ⟨Nat.le_of_ble_eq_true rfl, Nat.le_of_ble_eq_true rfl⟩ ?_
  refine aw_if_neB (tgt := 23) dX6_period_10 (by decide) (fun c1 => ?_) (fun c1 => absurd c1 (by rw [show decide (2 ≤ (nI n).toInt ∧ (nI n).toInt ≤ 16) = true from hw]; decide))
  refine aw_aload_n dX6_period_23 rfl ?_
  refine aw_aload_n dX6_period_24 rfl ?_
  refine aw_get 5 e1 rfl rfl (by decide) w_99 rfl dX6_period_25 ?_
  refine aw_aload_n dX6_period_28 rfl ?_
  refine aw_get 6 e1 rfl rfl (by decide) w_100 rfl dX6_period_29 ?_
  refine aw_iload_n dX6_period_32 rfl ?_
  refine aw_callVQ (As := [.ref (q + 3), .ref (q + 6), .int (nI (n))]) (rest := []) (c_X4_lay G hxD hxd e4 e5 hn (by omega)) kX4_lay w_484 s_11 rfl rfl rfl rfl (Nat.le_of_ble_eq_true rfl) dX6_period_33 ⟨Nat.le_of_ble_eq_true rfl, Nat.le_of_ble_eq_true rfl⟩ ⟨Nat.le_of_ble_eq_true rfl, Nat.le_of_ble_eq_true rfl⟩ (fun v_1 h_1 n_1 q_1 z_1 => ?_)
  obtain ⟨rfl, rfl, oL, hL2, y, hL, hLy⟩ := q_1
  have oL3 : ∀ a, (a < q + 3 ∨ q + 9 ≤ a) → h_1 a = h a := fun a ha => oL a (by omega) (by omega)
  cases hB : seqL st n with
  | none =>
    refine aw_if_neB (tgt := 41) dX6_period_36 (by decide) (fun c3 => absurd c3 (by decide)) (fun c3 => ?_)
    refine aw_iconst dX6_period_39 ic_m1 ?_
    have hs : sPeriod σ (nI i) (nI n) = (.inl (some (.int (-1))), σ) := by unfold sPeriod; rw [if_pos hx, if_pos hw, nI_nat (by omega), hxI]; unfold perS; rw [hB]
    exact aw_ireturn dX6_period_40 rfl (hPo_of hs (Nat.le_refl _) (fun a ha => oL3 a (by omega)) (hH.rows (fun a ha => oL3 a (by omega)) ⟨_, hL⟩ hL2 ⟨_, e6.keep (fun a g1 g2 => oL3 a (by omega))⟩)) (Nat.le_of_ble_eq_true rfl) (Nat.le_of_ble_eq_true rfl)
  | some s =>
    have hys := hLy s hB
    subst hys
    refine aw_if_neB (tgt := 41) dX6_period_36 (by decide) (fun c3 => ?_) (fun c3 => absurd c3 (by simp))
    have f_1 := (oL3 q (by omega)).trans e1
    have hcy := seqL_cOk hB
    refine aw_aload_n dX6_period_41 rfl ?_
    refine aw_get 5 f_1 rfl rfl (by decide) w_99 rfl dX6_period_42 ?_
    refine aw_callSR (As := [.ref (q + 3)]) (rest := []) (c_X0_fullPeriod G hL hcy hn.2) kX0_fullPeriod w_498 rfl rfl (Nat.le_of_ble_eq_true rfl) dX6_period_45 ⟨Nat.le_of_ble_eq_true rfl, Nat.le_of_ble_eq_true rfl⟩ ⟨Nat.le_of_ble_eq_true rfl, Nat.le_of_ble_eq_true rfl⟩ ?_
    have hs : sPeriod σ (nI i) (nI n) = (.inl (some (.int (nI (fpd y n n)))), σ) := by unfold sPeriod; rw [if_pos hx, if_pos hw, nI_nat (by omega), hxI]; unfold perS; rw [hB]
    exact aw_ireturn dX6_period_48 rfl (hPo_of hs (Nat.le_refl _) (fun a ha => oL3 a (by omega)) (hH.rows (fun a ha => oL3 a (by omega)) ⟨_, hL⟩ hL2 ⟨_, e6.keep (fun a g1 g2 => oL3 a (by omega))⟩)) (Nat.le_of_ble_eq_true rfl) (Nat.le_of_ble_eq_true rfl)
set_option maxHeartbeats 4000000 in
set_option maxRecDepth 20000 in
/-- shufflesOfAll -/
theorem c_X6_shufflesOfAll (G : aG) {h : aH} {nx q c : Nat} {σ : aSg} (hH : HallAt h q σ) (hσ : sgOk c σ) (hc9 : c ≤ 512)  : aMet G mX6_shufflesOfAll 5 0 0 [.ref (q)] h nx (pI (nI (sumD (fun d => d.2.2) σ.1 σ.1.length)) h nx) := by
  have h4 := hσ.1
  refine aMet_of rfl (Nat.le_of_ble_eq_true rfl) ?_
  show aw G mX6_shufflesOfAll [] (aRoom 5 0 0) (aEnd G (pI (nI (sumD (fun d => d.2.2) σ.1 σ.1.length)) h nx) 0 0) 0 0 h nx 0 [(0, .ref (q))] []
  have hHc := hH
  obtain ⟨e1, e2, e3, ⟨z1, e4⟩, ⟨z2, e5⟩, ⟨z3, e6⟩, e7, e8⟩ := hHc
  refine aw_ic dX6_shufflesOfAll_0 ic_0 ?_
  refine aw_istore_n (L' := [(1, .int (nI (0))), (0, .ref (q))]) dX6_shufflesOfAll_1 (by decide) rfl ?_
  refine aw_ic dX6_shufflesOfAll_2 ic_0 ?_
  refine aw_istore_n (L' := [(2, .int (nI (0))), (1, .int (nI (0))), (0, .ref (q))]) dX6_shufflesOfAll_3 (by decide) rfl ?_
  have K : ∀ (d : Nat) (i t : Nat), σ.1.length - i < d → (i ≤ σ.1.length) → (t = sumD (fun d => d.2.2) σ.1 i) → aw G mX6_shufflesOfAll [] (aRoom 5 0 0) (aEnd G (pI (nI (sumD (fun d => d.2.2) σ.1 σ.1.length)) h nx) 0 0) 0 0 h nx 4 [(0, .ref (q)), (1, .int (nI (t))), (2, .int (nI (i)))] [] := by
    intro d
    induction d with
    | zero => intro i t hMd; exact absurd hMd (Nat.not_lt_zero _)
    | succ d ih =>
      intro i t hMd hi ht
      refine aw_iload_n dX6_shufflesOfAll_4 rfl ?_
      refine aw_aload_n dX6_shufflesOfAll_5 rfl ?_
      refine aw_get 2 e1 rfl rfl (by decide) w_96 rfl dX6_shufflesOfAll_6 ?_
      refine aw_icmp_geN (tgt := 30) (by omega) (by omega) dX6_shufflesOfAll_9 (by decide) (fun c1 => ?_) (fun c1 => ?_)
      · skip
        have e9 : i = σ.1.length := by omega
        subst e9
        refine aw_iload_n dX6_shufflesOfAll_30 rfl ?_
        exact aw_ireturn dX6_shufflesOfAll_31 rfl ⟨r_n ht, rfl, rfl⟩ (Nat.le_of_ble_eq_true rfl) (Nat.le_of_ble_eq_true rfl)
      · skip
        have hk := hσ.2.2.2.1 i c1
        have hD := e7 i (by omega)
        obtain ⟨⟨l, ps, sc⟩, hq⟩ : ∃ d, d = σ.1.getD i dk0 := ⟨_, rfl⟩
        rw [← hq] at hk hD
        have hD : DeckAt h (q + 12 + 45 * i) l ps sc := hD
        simp only [dkOk] at hk
        obtain ⟨hn, hc, ha, hp, hp4, hsc⟩ := hk
        refine aw_iload_n dX6_shufflesOfAll_12 rfl ?_
        refine aw_aload_n dX6_shufflesOfAll_13 rfl ?_
        refine aw_get 0 e1 rfl rfl (by decide) w_94 rfl dX6_shufflesOfAll_14 ?_
        refine aw_iload_n dX6_shufflesOfAll_17 rfl ?_
        refine aw_aaloadD e2 (by omega) (by omega) dX6_shufflesOfAll_18 ?_
        refine aw_to ?_ rfl (show ([va_rf ((fDk q) i), .int (nI (t))] : List Value) = ([.ref (q + 12 + 45 * i), .int (nI (t))] : List Value) from by rw [fDk_at (by omega)]) rfl
        refine aw_callVR (As := []) (rest := [.int (nI (t))]) (c_X1_shuffleCount G hD) kX1_shuffleCount w_206 hD.1 rfl rfl rfl rfl (Nat.le_of_ble_eq_true rfl) dX6_shufflesOfAll_19 ⟨Nat.le_of_ble_eq_true rfl, Nat.le_of_ble_eq_true rfl⟩ ⟨Nat.le_of_ble_eq_true rfl, Nat.le_of_ble_eq_true rfl⟩ ?_
        refine aw_iaddN dX6_shufflesOfAll_22 ?_
        refine aw_istore_n (L' := [(1, .int (nI (t + sc))), (0, .ref (q)), (2, .int (nI (i)))]) dX6_shufflesOfAll_23 (by decide) rfl ?_
        refine aw_iincN (k := 1) (L' := [(2, .int (nI (i + 1))), (1, .int (nI (t + sc))), (0, .ref (q))]) dX6_shufflesOfAll_24 (by decide) rfl (by decide) rfl ?_
        refine aw_goto (tgt := 4) dX6_shufflesOfAll_27 (by decide) ?_
        refine aw_sub (L' := [(0, .ref (q)), (1, .int (nI (t + sc))), (2, .int (nI (i + 1)))]) [2, 1, 0] rfl ?_
        exact ih (i + 1) (t + sc) (by omega) (by omega) (by rw [ht]; simp only [sumD]; rw [← hq])
  refine aw_sub (L' := [(0, .ref (q)), (1, .int (nI (0))), (2, .int (nI (0)))]) [2, 1, 0] rfl ?_
  exact K (σ.1.length + 1) 0 0 (by omega) (by omega) rfl
set_option maxHeartbeats 4000000 in
set_option maxRecDepth 20000 in
/-- cardsOfAll -/
theorem c_X6_cardsOfAll (G : aG) {h : aH} {nx q c : Nat} {σ : aSg} (hH : HallAt h q σ) (hσ : sgOk c σ) (hc9 : c ≤ 512)  : aMet G mX6_cardsOfAll 5 0 0 [.ref (q)] h nx (pI (nI (sumD (fun d => d.1.length) σ.1 σ.1.length)) h nx) := by
  have h4 := hσ.1
  refine aMet_of rfl (Nat.le_of_ble_eq_true rfl) ?_
  show aw G mX6_cardsOfAll [] (aRoom 5 0 0) (aEnd G (pI (nI (sumD (fun d => d.1.length) σ.1 σ.1.length)) h nx) 0 0) 0 0 h nx 0 [(0, .ref (q))] []
  have hHc := hH
  obtain ⟨e1, e2, e3, ⟨z1, e4⟩, ⟨z2, e5⟩, ⟨z3, e6⟩, e7, e8⟩ := hHc
  refine aw_ic dX6_cardsOfAll_0 ic_0 ?_
  refine aw_istore_n (L' := [(1, .int (nI (0))), (0, .ref (q))]) dX6_cardsOfAll_1 (by decide) rfl ?_
  refine aw_ic dX6_cardsOfAll_2 ic_0 ?_
  refine aw_istore_n (L' := [(2, .int (nI (0))), (1, .int (nI (0))), (0, .ref (q))]) dX6_cardsOfAll_3 (by decide) rfl ?_
  have K : ∀ (d : Nat) (i t : Nat), σ.1.length - i < d → (i ≤ σ.1.length) → (t = sumD (fun d => d.1.length) σ.1 i) → aw G mX6_cardsOfAll [] (aRoom 5 0 0) (aEnd G (pI (nI (sumD (fun d => d.1.length) σ.1 σ.1.length)) h nx) 0 0) 0 0 h nx 4 [(0, .ref (q)), (1, .int (nI (t))), (2, .int (nI (i)))] [] := by
    intro d
    induction d with
    | zero => intro i t hMd; exact absurd hMd (Nat.not_lt_zero _)
    | succ d ih =>
      intro i t hMd hi ht
      refine aw_iload_n dX6_cardsOfAll_4 rfl ?_
      refine aw_aload_n dX6_cardsOfAll_5 rfl ?_
      refine aw_get 2 e1 rfl rfl (by decide) w_96 rfl dX6_cardsOfAll_6 ?_
      refine aw_icmp_geN (tgt := 33) (by omega) (by omega) dX6_cardsOfAll_9 (by decide) (fun c1 => ?_) (fun c1 => ?_)
      · skip
        have e9 : i = σ.1.length := by omega
        subst e9
        refine aw_iload_n dX6_cardsOfAll_33 rfl ?_
        exact aw_ireturn dX6_cardsOfAll_34 rfl ⟨r_n ht, rfl, rfl⟩ (Nat.le_of_ble_eq_true rfl) (Nat.le_of_ble_eq_true rfl)
      · skip
        have hk := hσ.2.2.2.1 i c1
        have hD := e7 i (by omega)
        obtain ⟨⟨l, ps, sc⟩, hq⟩ : ∃ d, d = σ.1.getD i dk0 := ⟨_, rfl⟩
        rw [← hq] at hk hD
        have hD : DeckAt h (q + 12 + 45 * i) l ps sc := hD
        simp only [dkOk] at hk
        obtain ⟨hn, hc, ha, hp, hp4, hsc⟩ := hk
        refine aw_iload_n dX6_cardsOfAll_12 rfl ?_
        refine aw_aload_n dX6_cardsOfAll_13 rfl ?_
        refine aw_get 0 e1 rfl rfl (by decide) w_94 rfl dX6_cardsOfAll_14 ?_
        refine aw_iload_n dX6_cardsOfAll_17 rfl ?_
        refine aw_aaloadD e2 (by omega) (by omega) dX6_cardsOfAll_18 ?_
        refine aw_to ?_ rfl (show ([va_rf ((fDk q) i), .int (nI (t))] : List Value) = ([.ref (q + 12 + 45 * i), .int (nI (t))] : List Value) from by rw [fDk_at (by omega)]) rfl
        refine aw_callVR (As := []) (rest := [.int (nI (t))]) (c_X1_row G hD) kX1_row w_214 hD.1 rfl rfl rfl rfl (Nat.le_of_ble_eq_true rfl) dX6_cardsOfAll_19 ⟨Nat.le_of_ble_eq_true rfl, Nat.le_of_ble_eq_true rfl⟩ ⟨Nat.le_of_ble_eq_true rfl, Nat.le_of_ble_eq_true rfl⟩ ?_
        have hR := hD.2.1
        obtain ⟨u_1f, u_1g, u_11, u_12, u_13, u_1l, u_1v⟩ := hR
        refine aw_callVR (As := []) (rest := [.int (nI (t))]) (c_X3_size G hD.2.1) kX3_size w_218 u_11 rfl rfl rfl rfl (Nat.le_of_ble_eq_true rfl) dX6_cardsOfAll_22 ⟨Nat.le_of_ble_eq_true rfl, Nat.le_of_ble_eq_true rfl⟩ ⟨Nat.le_of_ble_eq_true rfl, Nat.le_of_ble_eq_true rfl⟩ ?_
        refine aw_iaddN dX6_cardsOfAll_25 ?_
        refine aw_istore_n (L' := [(1, .int (nI (t + l.length))), (0, .ref (q)), (2, .int (nI (i)))]) dX6_cardsOfAll_26 (by decide) rfl ?_
        refine aw_iincN (k := 1) (L' := [(2, .int (nI (i + 1))), (1, .int (nI (t + l.length))), (0, .ref (q))]) dX6_cardsOfAll_27 (by decide) rfl (by decide) rfl ?_
        refine aw_goto (tgt := 4) dX6_cardsOfAll_30 (by decide) ?_
        refine aw_sub (L' := [(0, .ref (q)), (1, .int (nI (t + l.length))), (2, .int (nI (i + 1)))]) [2, 1, 0] rfl ?_
        exact ih (i + 1) (t + l.length) (by omega) (by omega) (by rw [ht]; simp only [sumD]; rw [← hq])
  refine aw_sub (L' := [(0, .ref (q)), (1, .int (nI (0))), (2, .int (nI (0)))]) [2, 1, 0] rfl ?_
  exact K (σ.1.length + 1) 0 0 (by omega) (by omega) rfl
set_option maxHeartbeats 4000000 in
set_option maxRecDepth 20000 in
/-- facesUpOfAll -/
theorem c_X6_facesUpOfAll (G : aG) {h : aH} {nx q c : Nat} {σ : aSg} (hH : HallAt h q σ) (hσ : sgOk c σ) (hc9 : c ≤ 512)  : aMet G mX6_facesUpOfAll 5 0 0 [.ref (q)] h nx (pI (nI (sumD (fun d => ups d.1 d.1.length) σ.1 σ.1.length)) h nx) := by
  have h4 := hσ.1
  refine aMet_of rfl (Nat.le_of_ble_eq_true rfl) ?_
  show aw G mX6_facesUpOfAll [] (aRoom 5 0 0) (aEnd G (pI (nI (sumD (fun d => ups d.1 d.1.length) σ.1 σ.1.length)) h nx) 0 0) 0 0 h nx 0 [(0, .ref (q))] []
  have hHc := hH
  obtain ⟨e1, e2, e3, ⟨z1, e4⟩, ⟨z2, e5⟩, ⟨z3, e6⟩, e7, e8⟩ := hHc
  refine aw_ic dX6_facesUpOfAll_0 ic_0 ?_
  refine aw_istore_n (L' := [(1, .int (nI (0))), (0, .ref (q))]) dX6_facesUpOfAll_1 (by decide) rfl ?_
  refine aw_ic dX6_facesUpOfAll_2 ic_0 ?_
  refine aw_istore_n (L' := [(2, .int (nI (0))), (1, .int (nI (0))), (0, .ref (q))]) dX6_facesUpOfAll_3 (by decide) rfl ?_
  have K : ∀ (d : Nat) (i t : Nat), σ.1.length - i < d → (i ≤ σ.1.length) → (t = sumD (fun d => ups d.1 d.1.length) σ.1 i) → aw G mX6_facesUpOfAll [] (aRoom 5 0 0) (aEnd G (pI (nI (sumD (fun d => ups d.1 d.1.length) σ.1 σ.1.length)) h nx) 0 0) 0 0 h nx 4 [(0, .ref (q)), (1, .int (nI (t))), (2, .int (nI (i)))] [] := by
    intro d
    induction d with
    | zero => intro i t hMd; exact absurd hMd (Nat.not_lt_zero _)
    | succ d ih =>
      intro i t hMd hi ht
      refine aw_iload_n dX6_facesUpOfAll_4 rfl ?_
      refine aw_aload_n dX6_facesUpOfAll_5 rfl ?_
      refine aw_get 2 e1 rfl rfl (by decide) w_96 rfl dX6_facesUpOfAll_6 ?_
      refine aw_icmp_geN (tgt := 33) (by omega) (by omega) dX6_facesUpOfAll_9 (by decide) (fun c1 => ?_) (fun c1 => ?_)
      · skip
        have e9 : i = σ.1.length := by omega
        subst e9
        refine aw_iload_n dX6_facesUpOfAll_33 rfl ?_
        exact aw_ireturn dX6_facesUpOfAll_34 rfl ⟨r_n ht, rfl, rfl⟩ (Nat.le_of_ble_eq_true rfl) (Nat.le_of_ble_eq_true rfl)
      · skip
        have hk := hσ.2.2.2.1 i c1
        have hD := e7 i (by omega)
        obtain ⟨⟨l, ps, sc⟩, hq⟩ : ∃ d, d = σ.1.getD i dk0 := ⟨_, rfl⟩
        rw [← hq] at hk hD
        have hD : DeckAt h (q + 12 + 45 * i) l ps sc := hD
        simp only [dkOk] at hk
        obtain ⟨hn, hc, ha, hp, hp4, hsc⟩ := hk
        refine aw_iload_n dX6_facesUpOfAll_12 rfl ?_
        refine aw_aload_n dX6_facesUpOfAll_13 rfl ?_
        refine aw_get 0 e1 rfl rfl (by decide) w_94 rfl dX6_facesUpOfAll_14 ?_
        refine aw_iload_n dX6_facesUpOfAll_17 rfl ?_
        refine aw_aaloadD e2 (by omega) (by omega) dX6_facesUpOfAll_18 ?_
        refine aw_to ?_ rfl (show ([va_rf ((fDk q) i), .int (nI (t))] : List Value) = ([.ref (q + 12 + 45 * i), .int (nI (t))] : List Value) from by rw [fDk_at (by omega)]) rfl
        refine aw_callVR (As := []) (rest := [.int (nI (t))]) (c_X1_row G hD) kX1_row w_214 hD.1 rfl rfl rfl rfl (Nat.le_of_ble_eq_true rfl) dX6_facesUpOfAll_19 ⟨Nat.le_of_ble_eq_true rfl, Nat.le_of_ble_eq_true rfl⟩ ⟨Nat.le_of_ble_eq_true rfl, Nat.le_of_ble_eq_true rfl⟩ ?_
        have hR := hD.2.1
        obtain ⟨u_1f, u_1g, u_11, u_12, u_13, u_1l, u_1v⟩ := hR
        refine aw_callSR (As := [.ref (q + 12 + 45 * i + 1)]) (rest := [.int (nI (t))]) (c_X2_facesUp G hD.2.1 hc hn.2) kX2_facesUp w_226 rfl rfl (Nat.le_of_ble_eq_true rfl) dX6_facesUpOfAll_22 ⟨Nat.le_of_ble_eq_true rfl, Nat.le_of_ble_eq_true rfl⟩ ⟨Nat.le_of_ble_eq_true rfl, Nat.le_of_ble_eq_true rfl⟩ ?_
        refine aw_iaddN dX6_facesUpOfAll_25 ?_
        refine aw_istore_n (L' := [(1, .int (nI (t + (ups l l.length)))), (0, .ref (q)), (2, .int (nI (i)))]) dX6_facesUpOfAll_26 (by decide) rfl ?_
        refine aw_iincN (k := 1) (L' := [(2, .int (nI (i + 1))), (1, .int (nI (t + (ups l l.length)))), (0, .ref (q))]) dX6_facesUpOfAll_27 (by decide) rfl (by decide) rfl ?_
        refine aw_goto (tgt := 4) dX6_facesUpOfAll_30 (by decide) ?_
        refine aw_sub (L' := [(0, .ref (q)), (1, .int (nI (t + (ups l l.length)))), (2, .int (nI (i + 1)))]) [2, 1, 0] rfl ?_
        exact ih (i + 1) (t + (ups l l.length)) (by omega) (by omega) (by rw [ht]; simp only [sumD]; rw [← hq])
  refine aw_sub (L' := [(0, .ref (q)), (1, .int (nI (0))), (2, .int (nI (0)))]) [2, 1, 0] rfl ?_
  exact K (σ.1.length + 1) 0 0 (by omega) (by omega) rfl
set_option maxHeartbeats 4000000 in
set_option maxRecDepth 20000 in
/-- many, asked rightly -/
theorem c_X6_many (G : aG) {h : aH} {nx q c : Nat} {σ : aSg} (hH : HallAt h q σ) (hσ : sgOk c σ) (hc9 : c ≤ 512) {u : Nat} (hwi : u ≤ 5) : aMet G mX6_many 12 0 0 [.ref (q), .int (nI (u))] h nx (pQ (fun v h1 n1 => v = some (.int (nI (manyS σ u))) ∧ n1 = nx ∧ aOff h h1 q 204 ∧ HallAt h1 q σ)) := by
  have h4 := hσ.1
  have h5 := hσ.2.1
  refine aMet_of rfl (Nat.le_of_ble_eq_true rfl) ?_
  show aw G mX6_many [] (aRoom 12 0 0) (aEnd G (pQ (fun v h1 n1 => v = some (.int (nI (manyS σ u))) ∧ n1 = nx ∧ aOff h h1 q 204 ∧ HallAt h1 q σ)) 0 0) 0 0 h nx 0 [(0, .ref (q)), (1, .int (nI (u)))] []
  have hHc := hH
  obtain ⟨e1, e2, e3, ⟨z1, e4⟩, ⟨z2, e5⟩, ⟨z3, e6⟩, e7, e8⟩ := hHc
  refine aw_iload_n dX6_many_0 rfl ?_
  refine aw_ic dX6_many_1 ic_5 ?_
  have hw := wIn_i hwi (show 5 < 2 ^ 31 by omega)
  refine aw_callSR (As := [.int (nI (u)), .int (nI (5))]) (rest := []) (c_X6_needWhat G (b := 5) (by omega) hw) kX6_needWhat w_128 rfl rfl (Nat.le_of_ble_eq_true rfl) dX6_many_2 ⟨Nat.le_of_ble_eq_true rfl, Nat.le_of_ble_eq_true rfl⟩ ⟨Nat.le_of_ble_eq_true rfl, Nat.le_of_ble_eq_true rfl⟩ ?_
  refine aw_iload_n dX6_many_5 rfl ?_
  rcases (show u = 0 ∨ u = 1 ∨ u = 2 ∨ u = 3 ∨ u = 4 ∨ u = 5 by omega) with rfl | rfl | rfl | rfl | rfl | rfl
  · skip
    refine aw_tableIn (off := 34) (tgt := 40) dX6_many_6 (by decide) (by decide) (by decide) (by decide) ?_
    refine aw_aload_n dX6_many_40 rfl ?_
    refine aw_get 2 e1 rfl rfl (by decide) w_96 rfl dX6_many_41 ?_
    exact aw_ireturn dX6_many_44 rfl ⟨_, rfl, rfl, rfl, aOff.rf, hH⟩ (Nat.le_of_ble_eq_true rfl) (Nat.le_of_ble_eq_true rfl)
  · skip
    refine aw_tableIn (off := 39) (tgt := 45) dX6_many_6 (by decide) (by decide) (by decide) (by decide) ?_
    refine aw_aload_n dX6_many_45 rfl ?_
    refine aw_get 3 e1 rfl rfl (by decide) w_97 rfl dX6_many_46 ?_
    exact aw_ireturn dX6_many_49 rfl ⟨_, rfl, rfl, rfl, aOff.rf, hH⟩ (Nat.le_of_ble_eq_true rfl) (Nat.le_of_ble_eq_true rfl)
  · skip
    refine aw_tableIn (off := 44) (tgt := 50) dX6_many_6 (by decide) (by decide) (by decide) (by decide) ?_
    refine aw_aload_n dX6_many_50 rfl ?_
    refine aw_callVR (As := []) (rest := []) (c_X6_shufflesOfAll G hH hσ hc9) kX6_shufflesOfAll w_202 e1 rfl rfl rfl rfl (Nat.le_of_ble_eq_true rfl) dX6_many_51 ⟨Nat.le_of_ble_eq_true rfl, Nat.le_of_ble_eq_true rfl⟩ ⟨Nat.le_of_ble_eq_true rfl, Nat.le_of_ble_eq_true rfl⟩ ?_
    exact aw_ireturn dX6_many_54 rfl ⟨_, rfl, rfl, rfl, aOff.rf, hH⟩ (Nat.le_of_ble_eq_true rfl) (Nat.le_of_ble_eq_true rfl)
  · skip
    refine aw_tableIn (off := 49) (tgt := 55) dX6_many_6 (by decide) (by decide) (by decide) (by decide) ?_
    refine aw_aload_n dX6_many_55 rfl ?_
    refine aw_get 4 e1 rfl rfl (by decide) w_98 rfl dX6_many_56 ?_
    exact aw_ireturn dX6_many_59 rfl ⟨_, rfl, rfl, rfl, aOff.rf, hH⟩ (Nat.le_of_ble_eq_true rfl) (Nat.le_of_ble_eq_true rfl)
  · skip
    refine aw_tableIn (off := 54) (tgt := 60) dX6_many_6 (by decide) (by decide) (by decide) (by decide) ?_
    refine aw_aload_n dX6_many_60 rfl ?_
    refine aw_callVR (As := []) (rest := []) (c_X6_cardsOfAll G hH hσ hc9) kX6_cardsOfAll w_210 e1 rfl rfl rfl rfl (Nat.le_of_ble_eq_true rfl) dX6_many_61 ⟨Nat.le_of_ble_eq_true rfl, Nat.le_of_ble_eq_true rfl⟩ ⟨Nat.le_of_ble_eq_true rfl, Nat.le_of_ble_eq_true rfl⟩ ?_
    exact aw_ireturn dX6_many_64 rfl ⟨_, rfl, rfl, rfl, aOff.rf, hH⟩ (Nat.le_of_ble_eq_true rfl) (Nat.le_of_ble_eq_true rfl)
  · skip
    refine aw_tableOut (tgt := 65) dX6_many_6 (by decide) (by decide) ?_
    refine aw_aload_n dX6_many_65 rfl ?_
    refine aw_callVR (As := []) (rest := []) (c_X6_facesUpOfAll G hH hσ hc9) kX6_facesUpOfAll w_222 e1 rfl rfl rfl rfl (Nat.le_of_ble_eq_true rfl) dX6_many_66 ⟨Nat.le_of_ble_eq_true rfl, Nat.le_of_ble_eq_true rfl⟩ ⟨Nat.le_of_ble_eq_true rfl, Nat.le_of_ble_eq_true rfl⟩ ?_
    exact aw_ireturn dX6_many_69 rfl ⟨_, rfl, rfl, rfl, aOff.rf, hH⟩ (Nat.le_of_ble_eq_true rfl) (Nat.le_of_ble_eq_true rfl)
set_option maxHeartbeats 4000000 in
set_option maxRecDepth 20000 in
/-- many -/
theorem p_X6_many (G : aG) {h : aH} {nx q c : Nat} {σ : aSg} (hH : HallAt h q σ) (hσ : sgOk c σ) (hc9 : c ≤ 512) (w : Int32) : aMet G mX6_many 12 1 6 [.ref (q), .int (w)] h nx (hPo h q nx (sMany σ w)) := by
  have h4 := hσ.1
  have h5 := hσ.2.1
  refine aMet_of rfl (Nat.le_of_ble_eq_true rfl) ?_
  show aw G mX6_many [] (aRoom 12 1 6) (aEnd G (hPo h q nx (sMany σ w)) 1 6) 0 0 h nx 0 [(0, .ref (q)), (1, .int (w))] []
  have hHc := hH
  obtain ⟨e1, e2, e3, ⟨z1, e4⟩, ⟨z2, e5⟩, ⟨z3, e6⟩, e7, e8⟩ := hHc
  refine aw_iload_n dX6_many_0 rfl ?_
  refine aw_ic dX6_many_1 ic_5 ?_
  by_cases hw : wIn w 0 5 = true
  rotate_left
  · skip
    have hs : sMany σ w = (.inr xIAE, σ) := by unfold sMany; exact if_neg hw
    exact aw_callST (As := [.int (w), .int (nI (5))]) (rest := []) (t_X6_needWhat G (b := 5) (by omega) (bf hw)) kX6_needWhat w_128 rfl rfl (Nat.le_of_ble_eq_true rfl) dX6_many_2 ⟨Nat.le_of_ble_eq_true rfl, Nat.le_of_ble_eq_true rfl⟩ ⟨Nat.le_of_ble_eq_true rfl, Nat.le_of_ble_eq_true rfl⟩ (Nat.le_of_ble_eq_true rfl) (Nat.le_of_ble_eq_true rfl) (fun n1 hn1 => hPo_of hs hn1 aOff.rf hH)
  refine aw_callSR (As := [.int (w), .int (nI (5))]) (rest := []) (c_X6_needWhat G (b := 5) (by omega) hw) kX6_needWhat w_128 rfl rfl (Nat.le_of_ble_eq_true rfl) dX6_many_2 ⟨Nat.le_of_ble_eq_true rfl, Nat.le_of_ble_eq_true rfl⟩ ⟨Nat.le_of_ble_eq_true rfl, Nat.le_of_ble_eq_true rfl⟩ ?_
  obtain ⟨u, -, hwi, rfl⟩ := wIn_nat (a := 0) (b := 5) hw (by omega)
  refine aw_iload_n dX6_many_5 rfl ?_
  rcases (show u = 0 ∨ u = 1 ∨ u = 2 ∨ u = 3 ∨ u = 4 ∨ u = 5 by omega) with rfl | rfl | rfl | rfl | rfl | rfl
  · skip
    refine aw_tableIn (off := 34) (tgt := 40) dX6_many_6 (by decide) (by decide) (by decide) (by decide) ?_
    refine aw_aload_n dX6_many_40 rfl ?_
    refine aw_get 2 e1 rfl rfl (by decide) w_96 rfl dX6_many_41 ?_
    have hs : sMany σ (nI 0) = (.inl (some (.int (nI (σ.1.length)))), σ) := by unfold sMany; rw [if_pos hw, nI_nat (by omega)]; rfl
    exact aw_ireturn dX6_many_44 rfl (hPo_of hs (Nat.le_refl _) aOff.rf hH) (Nat.le_of_ble_eq_true rfl) (Nat.le_of_ble_eq_true rfl)
  · skip
    refine aw_tableIn (off := 39) (tgt := 45) dX6_many_6 (by decide) (by decide) (by decide) (by decide) ?_
    refine aw_aload_n dX6_many_45 rfl ?_
    refine aw_get 3 e1 rfl rfl (by decide) w_97 rfl dX6_many_46 ?_
    have hs : sMany σ (nI 1) = (.inl (some (.int (nI (σ.2.1.length)))), σ) := by unfold sMany; rw [if_pos hw, nI_nat (by omega)]; rfl
    exact aw_ireturn dX6_many_49 rfl (hPo_of hs (Nat.le_refl _) aOff.rf hH) (Nat.le_of_ble_eq_true rfl) (Nat.le_of_ble_eq_true rfl)
  · skip
    refine aw_tableIn (off := 44) (tgt := 50) dX6_many_6 (by decide) (by decide) (by decide) (by decide) ?_
    refine aw_aload_n dX6_many_50 rfl ?_
    refine aw_callVR (As := []) (rest := []) (c_X6_shufflesOfAll G hH hσ hc9) kX6_shufflesOfAll w_202 e1 rfl rfl rfl rfl (Nat.le_of_ble_eq_true rfl) dX6_many_51 ⟨Nat.le_of_ble_eq_true rfl, Nat.le_of_ble_eq_true rfl⟩ ⟨Nat.le_of_ble_eq_true rfl, Nat.le_of_ble_eq_true rfl⟩ ?_
    have hs : sMany σ (nI 2) = (.inl (some (.int (nI (sumD (fun d => d.2.2) σ.1 σ.1.length)))), σ) := by unfold sMany; rw [if_pos hw, nI_nat (by omega)]; rfl
    exact aw_ireturn dX6_many_54 rfl (hPo_of hs (Nat.le_refl _) aOff.rf hH) (Nat.le_of_ble_eq_true rfl) (Nat.le_of_ble_eq_true rfl)
  · skip
    refine aw_tableIn (off := 49) (tgt := 55) dX6_many_6 (by decide) (by decide) (by decide) (by decide) ?_
    refine aw_aload_n dX6_many_55 rfl ?_
    refine aw_get 4 e1 rfl rfl (by decide) w_98 rfl dX6_many_56 ?_
    have hs : sMany σ (nI 3) = (.inl (some (.int (nI (σ.2.2)))), σ) := by unfold sMany; rw [if_pos hw, nI_nat (by omega)]; rfl
    exact aw_ireturn dX6_many_59 rfl (hPo_of hs (Nat.le_refl _) aOff.rf hH) (Nat.le_of_ble_eq_true rfl) (Nat.le_of_ble_eq_true rfl)
  · skip
    refine aw_tableIn (off := 54) (tgt := 60) dX6_many_6 (by decide) (by decide) (by decide) (by decide) ?_
    refine aw_aload_n dX6_many_60 rfl ?_
    refine aw_callVR (As := []) (rest := []) (c_X6_cardsOfAll G hH hσ hc9) kX6_cardsOfAll w_210 e1 rfl rfl rfl rfl (Nat.le_of_ble_eq_true rfl) dX6_many_61 ⟨Nat.le_of_ble_eq_true rfl, Nat.le_of_ble_eq_true rfl⟩ ⟨Nat.le_of_ble_eq_true rfl, Nat.le_of_ble_eq_true rfl⟩ ?_
    have hs : sMany σ (nI 4) = (.inl (some (.int (nI (sumD (fun d => d.1.length) σ.1 σ.1.length)))), σ) := by unfold sMany; rw [if_pos hw, nI_nat (by omega)]; rfl
    exact aw_ireturn dX6_many_64 rfl (hPo_of hs (Nat.le_refl _) aOff.rf hH) (Nat.le_of_ble_eq_true rfl) (Nat.le_of_ble_eq_true rfl)
  · skip
    refine aw_tableOut (tgt := 65) dX6_many_6 (by decide) (by decide) ?_
    refine aw_aload_n dX6_many_65 rfl ?_
    refine aw_callVR (As := []) (rest := []) (c_X6_facesUpOfAll G hH hσ hc9) kX6_facesUpOfAll w_222 e1 rfl rfl rfl rfl (Nat.le_of_ble_eq_true rfl) dX6_many_66 ⟨Nat.le_of_ble_eq_true rfl, Nat.le_of_ble_eq_true rfl⟩ ⟨Nat.le_of_ble_eq_true rfl, Nat.le_of_ble_eq_true rfl⟩ ?_
    have hs : sMany σ (nI 5) = (.inl (some (.int (nI (sumD (fun d => ups d.1 d.1.length) σ.1 σ.1.length)))), σ) := by unfold sMany; rw [if_pos hw, nI_nat (by omega)]; rfl
    exact aw_ireturn dX6_many_69 rfl (hPo_of hs (Nat.le_refl _) aOff.rf hH) (Nat.le_of_ble_eq_true rfl) (Nat.le_of_ble_eq_true rfl)
