set_option maxHeartbeats 4000000 in
set_option maxRecDepth 20000 in
/-- mixed(d, v) -/
theorem c_X6_mixed (G : aG) {h : aH} {nx : Nat} (d : Int64) (v : Int32) : aMet G mX6_mixed 0 0 0 [.long (d), .int (v)] h nx (pR (some (.long (mixD d v))) h nx) := by
  refine aMet_of rfl (Nat.le_of_ble_eq_true rfl) ?_
  show aw G mX6_mixed [] (aRoom 0 0 0) (aEnd G (pR (some (.long (mixD d v))) h nx) 0 0) 0 0 h nx 0 [(0, .long (d)), (2, .int (v))] []
  refine aw_lload_n dX6_mixed_0 rfl ?_
  refine aw_ldc2 dX6_mixed_1 w_241 ?_
  refine aw_lmul dX6_mixed_4 ?_
  refine aw_iload_n dX6_mixed_5 rfl ?_
  refine aw_i2l dX6_mixed_6 ?_
  refine aw_ladd dX6_mixed_7 ?_
  exact aw_lreturn dX6_mixed_8 rfl ⟨rfl, rfl, rfl⟩ (Nat.le_of_ble_eq_true rfl) (Nat.le_of_ble_eq_true rfl)
set_option maxHeartbeats 4000000 in
set_option maxRecDepth 20000 in
/-- mixedDeck(d, deck) -/
theorem c_X6_mixedDeck (G : aG) {h : aH} {nx q c : Nat} {σ : aSg} (hH : HallAt h q σ) (hσ : sgOk c σ) (hc9 : c ≤ 512) {i : Nat} (w0 : Int64) (hxi : i < σ.1.length) : aMet G mX6_mixedDeck 13 0 0 [.ref (q), .long (w0), .int (nI (i))] h nx (pQ (fun v h1 n1 => v = some (.long (dgD σ w0 i)) ∧ n1 = nx ∧ aOff h h1 q 204 ∧ HallAt h1 q σ)) := by
  have h4 := hσ.1
  obtain ⟨⟨l, ps, sc⟩, hdd⟩ : ∃ d, σ.1.getD i dk0 = d := ⟨_, rfl⟩
  obtain ⟨⟨l2, ps2, sc2⟩, hdd2⟩ : ∃ d, σ.1.getD 0 dk0 = d := ⟨_, rfl⟩
  have hk := hσ.2.2.2.1 i hxi
  rw [hdd] at hk
  simp only [dkOk] at hk
  obtain ⟨hn, hc, ha, -⟩ := hk
  refine aMet_of rfl (Nat.le_of_ble_eq_true rfl) ?_
  show aw G mX6_mixedDeck [] (aRoom 13 0 0) (aEnd G (pQ (fun v h1 n1 => v = some (.long (dgD σ w0 i)) ∧ n1 = nx ∧ aOff h h1 q 204 ∧ HallAt h1 q σ)) 0 0) 0 0 h nx 0 [(0, .ref (q)), (1, .long (w0)), (3, .int (nI (i)))] []
  refine aw_lload_n dX6_mixedDeck_0 rfl ?_
  refine aw_lstore (L' := [(4, .long (w0)), (0, .ref (q)), (1, .long (w0)), (3, .int (nI (i)))]) dX6_mixedDeck_1 (by decide) rfl ?_
  refine aw_ic dX6_mixedDeck_3 ic_0 ?_
  refine aw_istore (L' := [(6, .int (nI (0))), (4, .long (w0)), (0, .ref (q)), (1, .long (w0)), (3, .int (nI (i)))]) dX6_mixedDeck_4 (by decide) rfl ?_
  obtain ⟨n0, hn0⟩ : ∃ n0, n0 = nx := ⟨_, rfl⟩
  rw [show (pQ (fun v h1 n1 => v = some (.long (dgD σ w0 i)) ∧ n1 = nx ∧ aOff h h1 q 204 ∧ HallAt h1 q σ)) = pQ (fun v h1 n1 => v = some (.long (dgD σ w0 i)) ∧ n1 = n0 ∧ aOff h h1 q 204 ∧ HallAt h1 q σ) by rw [hn0]]
  have K : ∀ (d : Nat) (k : Nat) (z : Int64) (h1 : aH) (nx : Nat), 11 - k < d → (k ≤ 11) → (z = dgA (l, ps, sc) w0 k) → (nx = n0) → (HallAt h1 q σ) → (aOff h h1 q 204) → aw G mX6_mixedDeck [] (aRoom 13 0 0) (aEnd G (pQ (fun v h1 n1 => v = some (.long (dgD σ w0 i)) ∧ n1 = n0 ∧ aOff h h1 q 204 ∧ HallAt h1 q σ)) 0 0) 0 0 h1 nx 6 [(0, .ref (q)), (1, .long (w0)), (3, .int (nI (i))), (4, .long (z)), (6, .int (nI (k)))] [] := by
    intro d
    induction d with
    | zero => intro k z h1 nx hMd; exact absurd hMd (Nat.not_lt_zero _)
    | succ d ih =>
      intro k z h1 nx hMd hk hz hnx H o
      refine aw_iload dX6_mixedDeck_6 rfl ?_
      refine aw_bp (v := 10) dX6_mixedDeck_8 (by decide) ?_
      refine aw_icmp_gtN (tgt := 33) (by omega) (by omega) dX6_mixedDeck_10 (by decide) (fun c1 => ?_) (fun c1 => ?_)
      · skip
        have e9 : k = 11 := by omega
        subst e9
        refine aw_ic dX6_mixedDeck_33 ic_0 ?_
        refine aw_istore (L' := [(6, .int (nI (0))), (0, .ref (q)), (1, .long (w0)), (3, .int (nI (i))), (4, .long (z))]) dX6_mixedDeck_34 (by decide) rfl ?_
        have K2 : ∀ (d : Nat) (j : Nat) (y : Int64) (h1 : aH) (nx : Nat), 6 - j < d → (j ≤ 6) → (y = dgB (l, ps, sc) z j) → (nx = n0) → (HallAt h1 q σ) → (aOff h h1 q 204) → aw G mX6_mixedDeck [] (aRoom 13 0 0) (aEnd G (pQ (fun v h1 n1 => v = some (.long (dgD σ w0 i)) ∧ n1 = n0 ∧ aOff h h1 q 204 ∧ HallAt h1 q σ)) 0 0) 0 0 h1 nx 36 [(0, .ref (q)), (1, .long (w0)), (3, .int (nI (i))), (4, .long (y)), (6, .int (nI (j)))] [] := by
          intro d
          induction d with
          | zero => intro j y h1 nx hMd; exact absurd hMd (Nat.not_lt_zero _)
          | succ d ih =>
            intro j y h1 nx hMd hj hy hnx H o
            refine aw_iload dX6_mixedDeck_36 rfl ?_
            refine aw_ic dX6_mixedDeck_38 ic_5 ?_
            refine aw_icmp_gtN (tgt := 70) (by omega) (by omega) dX6_mixedDeck_39 (by decide) (fun c2 => ?_) (fun c2 => ?_)
            · skip
              have e9 : j = 6 := by omega
              subst e9
              refine aw_aload_n dX6_mixedDeck_70 rfl ?_
              refine aw_iload_n dX6_mixedDeck_71 rfl ?_
              refine aw_ic dX6_mixedDeck_72 ic_0 ?_
              refine aw_callVQ (As := [.int (nI (i)), .int (nI (0))]) (rest := []) (c_X6_ofDeck G H hσ hc9 hxi hdd (u := 0) (by omega)) kX6_ofDeck w_246 H.1 rfl rfl rfl rfl (Nat.le_of_ble_eq_true rfl) dX6_mixedDeck_73 ⟨Nat.le_of_ble_eq_true rfl, Nat.le_of_ble_eq_true rfl⟩ ⟨Nat.le_of_ble_eq_true rfl, Nat.le_of_ble_eq_true rfl⟩ (fun v_1 h_1 n_1 q_1 z_1 => ?_)
              obtain ⟨rfl, rfl, o_1, H_1⟩ := q_1
              have hof := (o.tr o_1)
              have Hof := H_1
              refine aw_istore (L' := [(6, .int (nI (l.length))), (0, .ref (q)), (1, .long (w0)), (3, .int (nI (i))), (4, .long (y))]) dX6_mixedDeck_76 (by decide) rfl ?_
              refine aw_ic dX6_mixedDeck_78 ic_0 ?_
              refine aw_istore (L' := [(7, .int (nI (0))), (6, .int (nI (l.length))), (0, .ref (q)), (1, .long (w0)), (3, .int (nI (i))), (4, .long (y))]) dX6_mixedDeck_79 (by decide) rfl ?_
              have K3 : ∀ (d : Nat) (p : Nat) (x : Int64) (h1 : aH) (nx : Nat), l.length - p < d → (p ≤ l.length) → (x = dgC l y p) → (nx = n0) → (HallAt h1 q σ) → (aOff h h1 q 204) → aw G mX6_mixedDeck [] (aRoom 13 0 0) (aEnd G (pQ (fun v h1 n1 => v = some (.long (dgD σ w0 i)) ∧ n1 = n0 ∧ aOff h h1 q 204 ∧ HallAt h1 q σ)) 0 0) 0 0 h1 nx 81 [(0, .ref (q)), (1, .long (w0)), (3, .int (nI (i))), (4, .long (x)), (6, .int (nI (l.length))), (7, .int (nI (p)))] [] := by
                intro d
                induction d with
                | zero => intro p x h1 nx hMd; exact absurd hMd (Nat.not_lt_zero _)
                | succ d ih =>
                  intro p x h1 nx hMd hp hx hnx H o
                  refine aw_iload dX6_mixedDeck_81 rfl ?_
                  refine aw_iload dX6_mixedDeck_83 rfl ?_
                  refine aw_icmp_geN (tgt := 141) (by omega) (by omega) dX6_mixedDeck_85 (by decide) (fun c3 => ?_) (fun c3 => ?_)
                  · skip
                    have e9 : p = l.length := by omega
                    refine aw_lload dX6_mixedDeck_141 rfl ?_
                    refine aw_aload_n dX6_mixedDeck_143 rfl ?_
                    refine aw_iload_n dX6_mixedDeck_144 rfl ?_
                    refine aw_callVQ (As := [.int (nI (i))]) (rest := [.long (x)]) (c_X6_best G H hσ hc9 hxi hdd) kX6_best w_365 H.1 rfl rfl rfl rfl (Nat.le_of_ble_eq_true rfl) dX6_mixedDeck_145 ⟨Nat.le_of_ble_eq_true rfl, Nat.le_of_ble_eq_true rfl⟩ ⟨Nat.le_of_ble_eq_true rfl, Nat.le_of_ble_eq_true rfl⟩ (fun v_2 h_2 n_2 q_2 z_2 => ?_)
                    obtain ⟨rfl, rfl, o_2, H_2⟩ := q_2
                    refine aw_callSR (As := [.long (x), .int (bestV l)]) (rest := []) (c_X6_mixed G x (bestV l)) kX6_mixed w_238 rfl rfl (Nat.le_of_ble_eq_true rfl) dX6_mixedDeck_148 ⟨Nat.le_of_ble_eq_true rfl, Nat.le_of_ble_eq_true rfl⟩ ⟨Nat.le_of_ble_eq_true rfl, Nat.le_of_ble_eq_true rfl⟩ ?_
                    refine aw_lstore (L' := [(4, .long (mixD x (bestV l))), (0, .ref (q)), (1, .long (w0)), (3, .int (nI (i))), (6, .int (nI (l.length))), (7, .int (nI (p)))]) dX6_mixedDeck_151 (by decide) rfl ?_
                    refine aw_lload dX6_mixedDeck_153 rfl ?_
                    refine aw_aload_n dX6_mixedDeck_155 rfl ?_
                    refine aw_iload_n dX6_mixedDeck_156 rfl ?_
                    refine aw_callVQ (As := [.int (nI (i))]) (rest := [.long (mixD x (bestV l))]) (c_X6_riffle G H_2 hσ hc9 hxi hdd) kX6_riffle w_436 H_2.1 rfl rfl rfl rfl (Nat.le_of_ble_eq_true rfl) dX6_mixedDeck_157 ⟨Nat.le_of_ble_eq_true rfl, Nat.le_of_ble_eq_true rfl⟩ ⟨Nat.le_of_ble_eq_true rfl, Nat.le_of_ble_eq_true rfl⟩ (fun v_3 h_3 n_3 q_3 z_3 => ?_)
                    obtain ⟨rfl, rfl, o_3, H_3⟩ := q_3
                    refine aw_callSR (As := [.long (mixD x (bestV l)), .int (rifV l)]) (rest := []) (c_X6_mixed G (mixD x (bestV l)) (rifV l)) kX6_mixed w_238 rfl rfl (Nat.le_of_ble_eq_true rfl) dX6_mixedDeck_160 ⟨Nat.le_of_ble_eq_true rfl, Nat.le_of_ble_eq_true rfl⟩ ⟨Nat.le_of_ble_eq_true rfl, Nat.le_of_ble_eq_true rfl⟩ ?_
                    refine aw_lstore (L' := [(4, .long (mixD (mixD x (bestV l)) (rifV l))), (0, .ref (q)), (1, .long (w0)), (3, .int (nI (i))), (6, .int (nI (l.length))), (7, .int (nI (p)))]) dX6_mixedDeck_163 (by decide) rfl ?_
                    refine aw_lload dX6_mixedDeck_165 rfl ?_
                    refine aw_aload_n dX6_mixedDeck_167 rfl ?_
                    refine aw_iload_n dX6_mixedDeck_168 rfl ?_
                    refine aw_ic dX6_mixedDeck_169 ic_0 ?_
                    refine aw_callVQ (As := [.int (nI (i)), .int (nI (0))]) (rest := [.long (mixD (mixD x (bestV l)) (rifV l))]) (c_X6_alike G H_3 hσ hc9 hxi hdd (i2 := 0) (by omega) hdd2) kX6_alike w_447 H_3.1 rfl rfl rfl rfl (Nat.le_of_ble_eq_true rfl) dX6_mixedDeck_170 ⟨Nat.le_of_ble_eq_true rfl, Nat.le_of_ble_eq_true rfl⟩ ⟨Nat.le_of_ble_eq_true rfl, Nat.le_of_ble_eq_true rfl⟩ (fun v_4 h_4 n_4 q_4 z_4 => ?_)
                    obtain ⟨rfl, rfl, o_4, H_4⟩ := q_4
                    refine aw_callSR (As := [.long (mixD (mixD x (bestV l)) (rifV l)), .int (nI (alk l l2 (min l.length l2.length)))]) (rest := []) (c_X6_mixed G (mixD (mixD x (bestV l)) (rifV l)) (nI (alk l l2 (min l.length l2.length)))) kX6_mixed w_238 rfl rfl (Nat.le_of_ble_eq_true rfl) dX6_mixedDeck_173 ⟨Nat.le_of_ble_eq_true rfl, Nat.le_of_ble_eq_true rfl⟩ ⟨Nat.le_of_ble_eq_true rfl, Nat.le_of_ble_eq_true rfl⟩ ?_
                    exact aw_lreturn dX6_mixedDeck_176 rfl ⟨_, rfl, by unfold dgD; rw [hdd, hdd2]; show _ = some (Value.long (mixD (mixD (mixD (dgC l (dgB (l, ps, sc) (dgA (l, ps, sc) w0 11) 6) l.length) (bestV l)) (rifV l)) (nI (alk l l2 (min l.length l2.length))))); rw [hx, hy, hz, e9], hnx, (((o.tr o_2).tr o_3).tr o_4), H_4⟩ (Nat.le_of_ble_eq_true rfl) (Nat.le_of_ble_eq_true rfl)
                  · skip
                    have hcp := hc.lt (i := p) c3
                    refine aw_aload_n dX6_mixedDeck_88 rfl ?_
                    refine aw_iload_n dX6_mixedDeck_89 rfl ?_
                    refine aw_iload dX6_mixedDeck_90 rfl ?_
                    refine aw_callVQ (As := [.int (nI (i)), .int (nI (p))]) (rest := []) (c_X6_card G H hσ hc9 hxi hdd (j := p) c3) kX6_card w_341 H.1 rfl rfl rfl rfl (Nat.le_of_ble_eq_true rfl) dX6_mixedDeck_92 ⟨Nat.le_of_ble_eq_true rfl, Nat.le_of_ble_eq_true rfl⟩ ⟨Nat.le_of_ble_eq_true rfl, Nat.le_of_ble_eq_true rfl⟩ (fun v_5 h_5 n_5 q_5 z_5 => ?_)
                    obtain ⟨rfl, rfl, o_5, H_5⟩ := q_5
                    refine aw_istore (L' := [(8, .int (nI (l.getD p 0 / 2))), (0, .ref (q)), (1, .long (w0)), (3, .int (nI (i))), (4, .long (x)), (6, .int (nI (l.length))), (7, .int (nI (p)))]) dX6_mixedDeck_95 (by decide) rfl ?_
                    refine aw_lload dX6_mixedDeck_97 rfl ?_
                    refine aw_iload dX6_mixedDeck_99 rfl ?_
                    refine aw_callSR (As := [.long (x), .int (nI (l.getD p 0 / 2))]) (rest := []) (c_X6_mixed G x (nI (l.getD p 0 / 2))) kX6_mixed w_238 rfl rfl (Nat.le_of_ble_eq_true rfl) dX6_mixedDeck_101 ⟨Nat.le_of_ble_eq_true rfl, Nat.le_of_ble_eq_true rfl⟩ ⟨Nat.le_of_ble_eq_true rfl, Nat.le_of_ble_eq_true rfl⟩ ?_
                    refine aw_lstore (L' := [(4, .long (mixD x (nI (l.getD p 0 / 2)))), (8, .int (nI (l.getD p 0 / 2))), (0, .ref (q)), (1, .long (w0)), (3, .int (nI (i))), (6, .int (nI (l.length))), (7, .int (nI (p)))]) dX6_mixedDeck_104 (by decide) rfl ?_
                    refine aw_lload dX6_mixedDeck_106 rfl ?_
                    refine aw_aload_n dX6_mixedDeck_108 rfl ?_
                    refine aw_iload_n dX6_mixedDeck_109 rfl ?_
                    refine aw_iload dX6_mixedDeck_110 rfl ?_
                    refine aw_ic dX6_mixedDeck_112 ic_1 ?_
                    refine aw_callVQ (As := [.int (nI (i)), .int (nI (l.getD p 0 / 2)), .int (nI (1))]) (rest := [.long (mixD x (nI (l.getD p 0 / 2)))]) (c_X6_find G H_5 hσ hc9 hxi hdd (j := l.getD p 0 / 2) hcp) kX6_find w_351 H_5.1 rfl rfl rfl rfl (Nat.le_of_ble_eq_true rfl) dX6_mixedDeck_113 ⟨Nat.le_of_ble_eq_true rfl, Nat.le_of_ble_eq_true rfl⟩ ⟨Nat.le_of_ble_eq_true rfl, Nat.le_of_ble_eq_true rfl⟩ (fun v_6 h_6 n_6 q_6 z_6 => ?_)
                    obtain ⟨rfl, rfl, o_6, H_6⟩ := q_6
                    refine aw_callSR (As := [.long (mixD x (nI (l.getD p 0 / 2))), .int (nI (l.getD (ixOf l (l.getD p 0 / 2)) 0 % 2))]) (rest := []) (c_X6_mixed G (mixD x (nI (l.getD p 0 / 2))) (nI (l.getD (ixOf l (l.getD p 0 / 2)) 0 % 2))) kX6_mixed w_238 rfl rfl (Nat.le_of_ble_eq_true rfl) dX6_mixedDeck_116 ⟨Nat.le_of_ble_eq_true rfl, Nat.le_of_ble_eq_true rfl⟩ ⟨Nat.le_of_ble_eq_true rfl, Nat.le_of_ble_eq_true rfl⟩ ?_
                    refine aw_lstore (L' := [(4, .long (mixD (mixD x (nI (l.getD p 0 / 2))) (nI (l.getD (ixOf l (l.getD p 0 / 2)) 0 % 2)))), (8, .int (nI (l.getD p 0 / 2))), (0, .ref (q)), (1, .long (w0)), (3, .int (nI (i))), (6, .int (nI (l.length))), (7, .int (nI (p)))]) dX6_mixedDeck_119 (by decide) rfl ?_
                    refine aw_lload dX6_mixedDeck_121 rfl ?_
                    refine aw_aload_n dX6_mixedDeck_123 rfl ?_
                    refine aw_iload_n dX6_mixedDeck_124 rfl ?_
                    refine aw_iload dX6_mixedDeck_125 rfl ?_
                    refine aw_callVQ (As := [.int (nI (i)), .int (nI (p))]) (rest := [.long (mixD (mixD x (nI (l.getD p 0 / 2))) (nI (l.getD (ixOf l (l.getD p 0 / 2)) 0 % 2)))]) (c_X6_toTop G H_6 hσ hc9 hxi hdd (j := p) c3) kX6_toTop w_358 H_6.1 rfl rfl rfl rfl (Nat.le_of_ble_eq_true rfl) dX6_mixedDeck_127 ⟨Nat.le_of_ble_eq_true rfl, Nat.le_of_ble_eq_true rfl⟩ ⟨Nat.le_of_ble_eq_true rfl, Nat.le_of_ble_eq_true rfl⟩ (fun v_7 h_7 n_7 q_7 z_7 => ?_)
                    obtain ⟨rfl, rfl, o_7, H_7⟩ := q_7
                    refine aw_callSR (As := [.long (mixD (mixD x (nI (l.getD p 0 / 2))) (nI (l.getD (ixOf l (l.getD p 0 / 2)) 0 % 2))), .int (toT l p)]) (rest := []) (c_X6_mixed G (mixD (mixD x (nI (l.getD p 0 / 2))) (nI (l.getD (ixOf l (l.getD p 0 / 2)) 0 % 2))) (toT l p)) kX6_mixed w_238 rfl rfl (Nat.le_of_ble_eq_true rfl) dX6_mixedDeck_130 ⟨Nat.le_of_ble_eq_true rfl, Nat.le_of_ble_eq_true rfl⟩ ⟨Nat.le_of_ble_eq_true rfl, Nat.le_of_ble_eq_true rfl⟩ ?_
                    refine aw_lstore (L' := [(4, .long (mixD (mixD (mixD x (nI (l.getD p 0 / 2))) (nI (l.getD (ixOf l (l.getD p 0 / 2)) 0 % 2))) (toT l p))), (8, .int (nI (l.getD p 0 / 2))), (0, .ref (q)), (1, .long (w0)), (3, .int (nI (i))), (6, .int (nI (l.length))), (7, .int (nI (p)))]) dX6_mixedDeck_133 (by decide) rfl ?_
                    refine aw_iincN (k := 1) (L' := [(7, .int (nI (p + 1))), (4, .long (mixD (mixD (mixD x (nI (l.getD p 0 / 2))) (nI (l.getD (ixOf l (l.getD p 0 / 2)) 0 % 2))) (toT l p))), (8, .int (nI (l.getD p 0 / 2))), (0, .ref (q)), (1, .long (w0)), (3, .int (nI (i))), (6, .int (nI (l.length)))]) dX6_mixedDeck_135 (by decide) rfl (by decide) rfl ?_
                    refine aw_goto (tgt := 81) dX6_mixedDeck_138 (by decide) ?_
                    refine aw_sub (L' := [(0, .ref (q)), (1, .long (w0)), (3, .int (nI (i))), (4, .long (mixD (mixD (mixD x (nI (l.getD p 0 / 2))) (nI (l.getD (ixOf l (l.getD p 0 / 2)) 0 % 2))) (toT l p))), (6, .int (nI (l.length))), (7, .int (nI (p + 1)))]) [3, 4, 5, 1, 6, 0] rfl ?_
                    exact ih (p + 1) (mixD (mixD (mixD x (nI (l.getD p 0 / 2))) (nI (l.getD (ixOf l (l.getD p 0 / 2)) 0 % 2))) (toT l p)) h_7 _ (by omega) (by omega) (by rw [hx]; rfl) hnx H_7 (((o.tr o_5).tr o_6).tr o_7)
              refine aw_sub (L' := [(0, .ref (q)), (1, .long (w0)), (3, .int (nI (i))), (4, .long (y)), (6, .int (nI (l.length))), (7, .int (nI (0)))]) [2, 3, 4, 5, 1, 0] rfl ?_
              exact K3 (l.length + 1) 0 y h_1 _ (by omega) (Nat.zero_le _) rfl hnx H_1 (o.tr o_1)
            · skip
              refine aw_lload dX6_mixedDeck_42 rfl ?_
              refine aw_aload_n dX6_mixedDeck_44 rfl ?_
              refine aw_iload_n dX6_mixedDeck_45 rfl ?_
              refine aw_iload dX6_mixedDeck_46 rfl ?_
              refine aw_callVQ (As := [.int (nI (i)), .int (nI (j))]) (rest := [.long (y)]) (c_X6_keeps G H hσ hc9 hxi hdd (u := j) (by omega)) kX6_keeps w_326 H.1 rfl rfl rfl rfl (Nat.le_of_ble_eq_true rfl) dX6_mixedDeck_48 ⟨Nat.le_of_ble_eq_true rfl, Nat.le_of_ble_eq_true rfl⟩ ⟨Nat.le_of_ble_eq_true rfl, Nat.le_of_ble_eq_true rfl⟩ (fun v_8 h_8 n_8 q_8 z_8 => ?_)
              obtain ⟨rfl, rfl, o_8, H_8⟩ := q_8
              refine aw_if_eqB (tgt := 58) dX6_mixedDeck_51 (by decide) (fun c3 => ?_) (fun c3 => ?_)
              · skip
                refine aw_ic dX6_mixedDeck_58 ic_0 ?_
                refine aw_callSR (As := [.long (y), .int (nI (0))]) (rest := []) (c_X6_mixed G y (nI 0)) kX6_mixed w_238 rfl rfl (Nat.le_of_ble_eq_true rfl) dX6_mixedDeck_59 ⟨Nat.le_of_ble_eq_true rfl, Nat.le_of_ble_eq_true rfl⟩ ⟨Nat.le_of_ble_eq_true rfl, Nat.le_of_ble_eq_true rfl⟩ ?_
                refine aw_lstore (L' := [(4, .long (mixD y (nI 0))), (0, .ref (q)), (1, .long (w0)), (3, .int (nI (i))), (6, .int (nI (j)))]) dX6_mixedDeck_62 (by decide) rfl ?_
                refine aw_iincN (k := 1) (L' := [(6, .int (nI (j + 1))), (4, .long (mixD y (nI 0))), (0, .ref (q)), (1, .long (w0)), (3, .int (nI (i)))]) dX6_mixedDeck_64 (by decide) rfl (by decide) rfl ?_
                refine aw_goto (tgt := 36) dX6_mixedDeck_67 (by decide) ?_
                refine aw_sub (L' := [(0, .ref (q)), (1, .long (w0)), (3, .int (nI (i))), (4, .long (mixD y (nI 0))), (6, .int (nI (j + 1)))]) [2, 3, 4, 1, 0] rfl ?_
                exact ih (j + 1) (mixD y (nI 0)) h_8 _ (by omega) (by omega) (by rw [hy]; show _ = mixD _ (bI (kpDk (l, ps, sc) j)); rw [c3]; rfl) hnx H_8 (o.tr o_8)
              · skip
                refine aw_ic dX6_mixedDeck_54 ic_1 ?_
                refine aw_goto (tgt := 59) dX6_mixedDeck_55 (by decide) ?_
                refine aw_callSR (As := [.long (y), .int (nI (1))]) (rest := []) (c_X6_mixed G y (nI 1)) kX6_mixed w_238 rfl rfl (Nat.le_of_ble_eq_true rfl) dX6_mixedDeck_59 ⟨Nat.le_of_ble_eq_true rfl, Nat.le_of_ble_eq_true rfl⟩ ⟨Nat.le_of_ble_eq_true rfl, Nat.le_of_ble_eq_true rfl⟩ ?_
                refine aw_lstore (L' := [(4, .long (mixD y (nI 1))), (0, .ref (q)), (1, .long (w0)), (3, .int (nI (i))), (6, .int (nI (j)))]) dX6_mixedDeck_62 (by decide) rfl ?_
                refine aw_iincN (k := 1) (L' := [(6, .int (nI (j + 1))), (4, .long (mixD y (nI 1))), (0, .ref (q)), (1, .long (w0)), (3, .int (nI (i)))]) dX6_mixedDeck_64 (by decide) rfl (by decide) rfl ?_
                refine aw_goto (tgt := 36) dX6_mixedDeck_67 (by decide) ?_
                refine aw_sub (L' := [(0, .ref (q)), (1, .long (w0)), (3, .int (nI (i))), (4, .long (mixD y (nI 1))), (6, .int (nI (j + 1)))]) [2, 3, 4, 1, 0] rfl ?_
                exact ih (j + 1) (mixD y (nI 1)) h_8 _ (by omega) (by omega) (by rw [hy]; show _ = mixD _ (bI (kpDk (l, ps, sc) j)); rw [c3]; rfl) hnx H_8 (o.tr o_8)
        refine aw_sub (L' := [(0, .ref (q)), (1, .long (w0)), (3, .int (nI (i))), (4, .long (z)), (6, .int (nI (0)))]) [1, 2, 3, 4, 0] rfl ?_
        exact K2 7 0 z h1 _ (by omega) (Nat.zero_le _) rfl hnx H o
      · skip
        refine aw_lload dX6_mixedDeck_13 rfl ?_
        refine aw_aload_n dX6_mixedDeck_15 rfl ?_
        refine aw_iload_n dX6_mixedDeck_16 rfl ?_
        refine aw_iload dX6_mixedDeck_17 rfl ?_
        refine aw_callVQ (As := [.int (nI (i)), .int (nI (k))]) (rest := [.long (z)]) (c_X6_ofDeck G H hσ hc9 hxi hdd (u := k) (by omega)) kX6_ofDeck w_246 H.1 rfl rfl rfl rfl (Nat.le_of_ble_eq_true rfl) dX6_mixedDeck_19 ⟨Nat.le_of_ble_eq_true rfl, Nat.le_of_ble_eq_true rfl⟩ ⟨Nat.le_of_ble_eq_true rfl, Nat.le_of_ble_eq_true rfl⟩ (fun v_9 h_9 n_9 q_9 z_9 => ?_)
        obtain ⟨rfl, rfl, o_9, H_9⟩ := q_9
        refine aw_callSR (As := [.long (z), .int (nI (ofDk (l, ps, sc) k))]) (rest := []) (c_X6_mixed G z (nI (ofDk (l, ps, sc) k))) kX6_mixed w_238 rfl rfl (Nat.le_of_ble_eq_true rfl) dX6_mixedDeck_22 ⟨Nat.le_of_ble_eq_true rfl, Nat.le_of_ble_eq_true rfl⟩ ⟨Nat.le_of_ble_eq_true rfl, Nat.le_of_ble_eq_true rfl⟩ ?_
        refine aw_lstore (L' := [(4, .long (mixD z (nI (ofDk (l, ps, sc) k)))), (0, .ref (q)), (1, .long (w0)), (3, .int (nI (i))), (6, .int (nI (k)))]) dX6_mixedDeck_25 (by decide) rfl ?_
        refine aw_iincN (k := 1) (L' := [(6, .int (nI (k + 1))), (4, .long (mixD z (nI (ofDk (l, ps, sc) k)))), (0, .ref (q)), (1, .long (w0)), (3, .int (nI (i)))]) dX6_mixedDeck_27 (by decide) rfl (by decide) rfl ?_
        refine aw_goto (tgt := 6) dX6_mixedDeck_30 (by decide) ?_
        refine aw_sub (L' := [(0, .ref (q)), (1, .long (w0)), (3, .int (nI (i))), (4, .long (mixD z (nI (ofDk (l, ps, sc) k)))), (6, .int (nI (k + 1)))]) [2, 3, 4, 1, 0] rfl ?_
        exact ih (k + 1) (mixD z (nI (ofDk (l, ps, sc) k))) h_9 _ (by omega) (by omega) (by rw [hz]; rfl) hnx H_9 (o.tr o_9)
  refine aw_sub (L' := [(0, .ref (q)), (1, .long (w0)), (3, .int (nI (i))), (4, .long (w0)), (6, .int (nI (0)))]) [2, 3, 4, 1, 0] rfl ?_
  exact K 12 0 w0 h nx (by omega) (Nat.zero_le _) rfl hn0.symm hH aOff.rf
set_option maxHeartbeats 4000000 in
set_option maxRecDepth 20000 in
/-- digest() -/
theorem c_X6_digest (G : aG) {h : aH} {nx q c : Nat} {σ : aSg} (hH : HallAt h q σ) (hσ : sgOk c σ) (hc9 : c ≤ 512)  : aMet G mX6_digest 14 0 0 [.ref (q)] h nx (pQ (fun v h1 n1 => v = some (.long (digV σ)) ∧ n1 = nx ∧ aOff h h1 q 204 ∧ HallAt h1 q σ)) := by
  have h4 := hσ.1
  have h5 := hσ.2.1
  refine aMet_of rfl (Nat.le_of_ble_eq_true rfl) ?_
  show aw G mX6_digest [] (aRoom 14 0 0) (aEnd G (pQ (fun v h1 n1 => v = some (.long (digV σ)) ∧ n1 = nx ∧ aOff h h1 q 204 ∧ HallAt h1 q σ)) 0 0) 0 0 h nx 0 [(0, .ref (q))] []
  refine aw_ldc2 dX6_digest_0 w_123 ?_
  refine aw_lstore_n (L' := [(1, .long (58304)), (0, .ref (q))]) dX6_digest_3 (by decide) rfl ?_
  refine aw_ic dX6_digest_4 ic_0 ?_
  refine aw_istore_n (L' := [(3, .int (nI (0))), (1, .long (58304)), (0, .ref (q))]) dX6_digest_5 (by decide) rfl ?_
  obtain ⟨n0, hn0⟩ : ∃ n0, n0 = nx := ⟨_, rfl⟩
  rw [show (pQ (fun v h1 n1 => v = some (.long (digV σ)) ∧ n1 = nx ∧ aOff h h1 q 204 ∧ HallAt h1 q σ)) = pQ (fun v h1 n1 => v = some (.long (digV σ)) ∧ n1 = n0 ∧ aOff h h1 q 204 ∧ HallAt h1 q σ) by rw [hn0]]
  have K : ∀ (d : Nat) (k : Nat) (z : Int64) (h1 : aH) (nx : Nat), 6 - k < d → (k ≤ 6) → (z = dgM σ k) → (nx = n0) → (HallAt h1 q σ) → (aOff h h1 q 204) → aw G mX6_digest [] (aRoom 14 0 0) (aEnd G (pQ (fun v h1 n1 => v = some (.long (digV σ)) ∧ n1 = n0 ∧ aOff h h1 q 204 ∧ HallAt h1 q σ)) 0 0) 0 0 h1 nx 6 [(0, .ref (q)), (1, .long (z)), (3, .int (nI (k)))] [] := by
    intro d
    induction d with
    | zero => intro k z h1 nx hMd; exact absurd hMd (Nat.not_lt_zero _)
    | succ d ih =>
      intro k z h1 nx hMd hk hz hnx H o
      refine aw_iload_n dX6_digest_6 rfl ?_
      refine aw_ic dX6_digest_7 ic_5 ?_
      refine aw_icmp_gtN (tgt := 27) (by omega) (by omega) dX6_digest_8 (by decide) (fun c1 => ?_) (fun c1 => ?_)
      · skip
        have e9 : k = 6 := by omega
        subst e9
        refine aw_ic dX6_digest_27 ic_0 ?_
        refine aw_istore_n (L' := [(3, .int (nI (0))), (0, .ref (q)), (1, .long (z))]) dX6_digest_28 (by decide) rfl ?_
        have K2 : ∀ (d : Nat) (i : Nat) (y : Int64) (h1 : aH) (nx : Nat), σ.1.length - i < d → (i ≤ σ.1.length) → (y = dgDs σ (dgM σ 6) i) → (nx = n0) → (HallAt h1 q σ) → (aOff h h1 q 204) → aw G mX6_digest [] (aRoom 14 0 0) (aEnd G (pQ (fun v h1 n1 => v = some (.long (digV σ)) ∧ n1 = n0 ∧ aOff h h1 q 204 ∧ HallAt h1 q σ)) 0 0) 0 0 h1 nx 29 [(0, .ref (q)), (1, .long (y)), (3, .int (nI (i)))] [] := by
          intro d
          induction d with
          | zero => intro i y h1 nx hMd; exact absurd hMd (Nat.not_lt_zero _)
          | succ d ih =>
            intro i y h1 nx hMd hi hy hnx H o
            refine aw_iload_n dX6_digest_29 rfl ?_
            refine aw_aload_n dX6_digest_30 rfl ?_
            refine aw_get 2 H.1 rfl rfl (by decide) w_96 rfl dX6_digest_31 ?_
            refine aw_icmp_geN (tgt := 50) (by omega) (by omega) dX6_digest_34 (by decide) (fun c2 => ?_) (fun c2 => ?_)
            · skip
              have e9 : i = σ.1.length := by omega
              refine aw_ic dX6_digest_50 ic_0 ?_
              refine aw_istore_n (L' := [(3, .int (nI (0))), (0, .ref (q)), (1, .long (y))]) dX6_digest_51 (by decide) rfl ?_
              have K3 : ∀ (d : Nat) (j : Nat) (x : Int64) (h1 : aH) (nx : Nat), σ.2.1.length - j < d → (j ≤ σ.2.1.length) → (x = dgSs σ y j) → (nx = n0) → (HallAt h1 q σ) → (aOff h h1 q 204) → aw G mX6_digest [] (aRoom 14 0 0) (aEnd G (pQ (fun v h1 n1 => v = some (.long (digV σ)) ∧ n1 = n0 ∧ aOff h h1 q 204 ∧ HallAt h1 q σ)) 0 0) 0 0 h1 nx 52 [(0, .ref (q)), (1, .long (x)), (3, .int (nI (j)))] [] := by
                intro d
                induction d with
                | zero => intro j x h1 nx hMd; exact absurd hMd (Nat.not_lt_zero _)
                | succ d ih =>
                  intro j x h1 nx hMd hj hx hnx H o
                  refine aw_iload_n dX6_digest_52 rfl ?_
                  refine aw_aload_n dX6_digest_53 rfl ?_
                  refine aw_get 3 H.1 rfl rfl (by decide) w_97 rfl dX6_digest_54 ?_
                  refine aw_icmp_geN (tgt := 89) (by omega) (by omega) dX6_digest_57 (by decide) (fun c3 => ?_) (fun c3 => ?_)
                  · skip
                    have e8 : j = σ.2.1.length := by omega
                    refine aw_lload_n dX6_digest_89 rfl ?_
                    exact aw_lreturn dX6_digest_90 rfl ⟨_, rfl, by unfold digV; rw [← e9, ← hy, hx, e8], hnx, o, H⟩ (Nat.le_of_ble_eq_true rfl) (Nat.le_of_ble_eq_true rfl)
                  · skip
                    refine aw_lload_n dX6_digest_60 rfl ?_
                    refine aw_aload_n dX6_digest_61 rfl ?_
                    refine aw_iload_n dX6_digest_62 rfl ?_
                    refine aw_ic dX6_digest_63 ic_0 ?_
                    refine aw_callVQ (As := [.int (nI (j)), .int (nI (0))]) (rest := [.long (x)]) (c_X6_ofSequence G H hσ hc9 (i := j) c3 rfl (u := 0) (Nat.zero_le _)) kX6_ofSequence w_452 H.1 rfl rfl rfl rfl (Nat.le_of_ble_eq_true rfl) dX6_digest_64 ⟨Nat.le_of_ble_eq_true rfl, Nat.le_of_ble_eq_true rfl⟩ ⟨Nat.le_of_ble_eq_true rfl, Nat.le_of_ble_eq_true rfl⟩ (fun v_1 h_1 n_1 q_1 z_1 => ?_)
                    obtain ⟨rfl, rfl, o_1, H_1⟩ := q_1
                    refine aw_callSR (As := [.long (x), .int (nI (ofSq (σ.2.1.getD j []) 0))]) (rest := []) (c_X6_mixed G x (nI (ofSq (σ.2.1.getD j []) 0))) kX6_mixed w_238 rfl rfl (Nat.le_of_ble_eq_true rfl) dX6_digest_67 ⟨Nat.le_of_ble_eq_true rfl, Nat.le_of_ble_eq_true rfl⟩ ⟨Nat.le_of_ble_eq_true rfl, Nat.le_of_ble_eq_true rfl⟩ ?_
                    refine aw_lstore_n (L' := [(1, .long (mixD x (nI (ofSq (σ.2.1.getD j []) 0)))), (0, .ref (q)), (3, .int (nI (j)))]) dX6_digest_70 (by decide) rfl ?_
                    refine aw_lload_n dX6_digest_71 rfl ?_
                    refine aw_aload_n dX6_digest_72 rfl ?_
                    refine aw_iload_n dX6_digest_73 rfl ?_
                    refine aw_bp (v := 8) dX6_digest_74 (by decide) ?_
                    refine aw_callVQ (As := [.int (nI (j)), .int (nI (8))]) (rest := [.long (mixD x (nI (ofSq (σ.2.1.getD j []) 0)))]) (c_X6_period G H_1 hσ hc9 (i := j) c3 rfl (n := 8) (by decide)) kX6_period w_478 H_1.1 rfl rfl rfl rfl (Nat.le_of_ble_eq_true rfl) dX6_digest_76 ⟨Nat.le_of_ble_eq_true rfl, Nat.le_of_ble_eq_true rfl⟩ ⟨Nat.le_of_ble_eq_true rfl, Nat.le_of_ble_eq_true rfl⟩ (fun v_2 h_2 n_2 q_2 z_2 => ?_)
                    obtain ⟨rfl, rfl, o_2, H_2⟩ := q_2
                    refine aw_callSR (As := [.long (mixD x (nI (ofSq (σ.2.1.getD j []) 0))), .int (perS (σ.2.1.getD j []) 8)]) (rest := []) (c_X6_mixed G (mixD x (nI (ofSq (σ.2.1.getD j []) 0))) (perS (σ.2.1.getD j []) 8)) kX6_mixed w_238 rfl rfl (Nat.le_of_ble_eq_true rfl) dX6_digest_79 ⟨Nat.le_of_ble_eq_true rfl, Nat.le_of_ble_eq_true rfl⟩ ⟨Nat.le_of_ble_eq_true rfl, Nat.le_of_ble_eq_true rfl⟩ ?_
                    refine aw_lstore_n (L' := [(1, .long (mixD (mixD x (nI (ofSq (σ.2.1.getD j []) 0))) (perS (σ.2.1.getD j []) 8))), (0, .ref (q)), (3, .int (nI (j)))]) dX6_digest_82 (by decide) rfl ?_
                    refine aw_iincN (k := 1) (L' := [(3, .int (nI (j + 1))), (1, .long (mixD (mixD x (nI (ofSq (σ.2.1.getD j []) 0))) (perS (σ.2.1.getD j []) 8))), (0, .ref (q))]) dX6_digest_83 (by decide) rfl (by decide) rfl ?_
                    refine aw_goto (tgt := 52) dX6_digest_86 (by decide) ?_
                    refine aw_sub (L' := [(0, .ref (q)), (1, .long (mixD (mixD x (nI (ofSq (σ.2.1.getD j []) 0))) (perS (σ.2.1.getD j []) 8))), (3, .int (nI (j + 1)))]) [2, 1, 0] rfl ?_
                    exact ih (j + 1) (mixD (mixD x (nI (ofSq (σ.2.1.getD j []) 0))) (perS (σ.2.1.getD j []) 8)) h_2 _ (by omega) (by omega) (by rw [hx]; rfl) hnx H_2 ((o.tr o_1).tr o_2)
              refine aw_sub (L' := [(0, .ref (q)), (1, .long (y)), (3, .int (nI (0)))]) [1, 2, 0] rfl ?_
              exact K3 (σ.2.1.length + 1) 0 y h1 _ (by omega) (Nat.zero_le _) rfl hnx H o
            · skip
              refine aw_aload_n dX6_digest_37 rfl ?_
              refine aw_lload_n dX6_digest_38 rfl ?_
              refine aw_iload_n dX6_digest_39 rfl ?_
              refine aw_callVQ (As := [.long (y), .int (nI (i))]) (rest := []) (c_X6_mixedDeck G H hσ hc9 y c2) kX6_mixedDeck w_242 H.1 rfl rfl rfl rfl (Nat.le_of_ble_eq_true rfl) dX6_digest_40 ⟨Nat.le_of_ble_eq_true rfl, Nat.le_of_ble_eq_true rfl⟩ ⟨Nat.le_of_ble_eq_true rfl, Nat.le_of_ble_eq_true rfl⟩ (fun v_3 h_3 n_3 q_3 z_3 => ?_)
              obtain ⟨rfl, rfl, o_3, H_3⟩ := q_3
              refine aw_lstore_n (L' := [(1, .long (dgD σ y i)), (0, .ref (q)), (3, .int (nI (i)))]) dX6_digest_43 (by decide) rfl ?_
              refine aw_iincN (k := 1) (L' := [(3, .int (nI (i + 1))), (1, .long (dgD σ y i)), (0, .ref (q))]) dX6_digest_44 (by decide) rfl (by decide) rfl ?_
              refine aw_goto (tgt := 29) dX6_digest_47 (by decide) ?_
              refine aw_sub (L' := [(0, .ref (q)), (1, .long (dgD σ y i)), (3, .int (nI (i + 1)))]) [2, 1, 0] rfl ?_
              exact ih (i + 1) (dgD σ y i) h_3 _ (by omega) (by omega) (by rw [hy]; rfl) hnx H_3 (o.tr o_3)
        refine aw_sub (L' := [(0, .ref (q)), (1, .long (z)), (3, .int (nI (0)))]) [1, 2, 0] rfl ?_
        exact K2 (σ.1.length + 1) 0 z h1 _ (by omega) (Nat.zero_le _) hz hnx H o
      · skip
        refine aw_lload_n dX6_digest_11 rfl ?_
        refine aw_aload_n dX6_digest_12 rfl ?_
        refine aw_iload_n dX6_digest_13 rfl ?_
        refine aw_callVQ (As := [.int (nI (k))]) (rest := [.long (z)]) (c_X6_many G H hσ hc9 (u := k) (by omega)) kX6_many w_124 H.1 rfl rfl rfl rfl (Nat.le_of_ble_eq_true rfl) dX6_digest_14 ⟨Nat.le_of_ble_eq_true rfl, Nat.le_of_ble_eq_true rfl⟩ ⟨Nat.le_of_ble_eq_true rfl, Nat.le_of_ble_eq_true rfl⟩ (fun v_4 h_4 n_4 q_4 z_4 => ?_)
        obtain ⟨rfl, rfl, o_4, H_4⟩ := q_4
        refine aw_callSR (As := [.long (z), .int (nI (manyS σ k))]) (rest := []) (c_X6_mixed G z (nI (manyS σ k))) kX6_mixed w_238 rfl rfl (Nat.le_of_ble_eq_true rfl) dX6_digest_17 ⟨Nat.le_of_ble_eq_true rfl, Nat.le_of_ble_eq_true rfl⟩ ⟨Nat.le_of_ble_eq_true rfl, Nat.le_of_ble_eq_true rfl⟩ ?_
        refine aw_lstore_n (L' := [(1, .long (mixD z (nI (manyS σ k)))), (0, .ref (q)), (3, .int (nI (k)))]) dX6_digest_20 (by decide) rfl ?_
        refine aw_iincN (k := 1) (L' := [(3, .int (nI (k + 1))), (1, .long (mixD z (nI (manyS σ k)))), (0, .ref (q))]) dX6_digest_21 (by decide) rfl (by decide) rfl ?_
        refine aw_goto (tgt := 6) dX6_digest_24 (by decide) ?_
        refine aw_sub (L' := [(0, .ref (q)), (1, .long (mixD z (nI (manyS σ k)))), (3, .int (nI (k + 1)))]) [2, 1, 0] rfl ?_
        exact ih (k + 1) (mixD z (nI (manyS σ k))) h_4 _ (by omega) (by omega) (by rw [hz]; rfl) hnx H_4 (o.tr o_4)
  refine aw_sub (L' := [(0, .ref (q)), (1, .long (58304)), (3, .int (nI (0)))]) [2, 1, 0] rfl ?_
  exact K 7 0 58304 h nx (by omega) (Nat.zero_le _) rfl hn0.symm hH aOff.rf
