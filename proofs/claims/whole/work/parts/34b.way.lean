set_option maxHeartbeats 4000000 in
set_option maxRecDepth 20000 in
/-- way(0, m, n) -/
theorem c_X9_way0 (G : aG) {h : aH} {nx m n : Nat} (hn : 2 ≤ n ∧ n ≤ 16) (hO : isO (0 : Nat) (m : Nat) n = true) : aMet G mX9_way 2 3 34 [.int (nI (0)), .int (nI (m)), .int (nI (n))] h nx (pQ (fun r h1 n1 => r = some (.ref nx) ∧ n1 = nx + 3 ∧ WayAt h1 nx (layL 0 m n) ∧ aOff h h1 nx 3)) := by
  have hO2 := (of_decide_eq_true hO).2
  refine aMet_of rfl (Nat.le_of_ble_eq_true rfl) ?_
  show aw G mX9_way [] (aRoom 2 3 34) (aEnd G (pQ (fun r h1 n1 => r = some (.ref nx) ∧ n1 = nx + 3 ∧ WayAt h1 nx (layL 0 m n) ∧ aOff h h1 nx 3)) 3 34) 0 0 h nx 0 [(0, .int (nI (0))), (1, .int (nI (m))), (2, .int (nI (n)))] []
  refine aw_newV (ci := 7) (fs := [.null, .null]) rfl w_879 w_880 w_24 (by decide +kernel) (Nat.le_of_ble_eq_true rfl) (Nat.le_of_ble_eq_true rfl) dX9_way_0 (fun h_1 f_1 o_1 => ?_)
  refine aw_dup dX9_way_3 rfl ?_
  refine aw_iload_n dX9_way_4 rfl ?_
  refine aw_callIQ (As := [.int (nI (n))]) (rest := [.ref (nx)]) (c_X8_init G f_1 hn.2) kX8_init w_881 rfl rfl (Nat.le_of_ble_eq_true rfl) dX9_way_5 ⟨Nat.le_of_ble_eq_true rfl, Nat.le_of_ble_eq_true rfl⟩ ⟨Nat.le_of_ble_eq_true rfl, Nat.le_of_ble_eq_true rfl⟩ (fun v_1 h_2 n_1 q_1 z_1 => ?_)
  obtain ⟨rfl, rfl, X_1, o_2⟩ := q_1
  refine aw_nx (show _ = nx + 3 from rfl) ?_
  obtain ⟨f0, g0, k1, k2, k3, k4⟩ := X_1
  rw [idL_len] at k2 k3 k4
  have hf0 : ∀ i, i < n → f0 i = nI i := fun i hi => by rw [(k4 i hi).1, idL_at hi]; congr 1; omega
  have hg0 : ∀ i, i < n → g0 i = bI false := fun i hi => by rw [(k4 i hi).2, idL_at hi, decide_eq_false (by omega)]
  have oA : aOff h h_2 nx 3 := fun a ha => (o_2 a (by omega)).trans (o_1 a (by omega))
  refine aw_astore_n (L' := [(3, .ref (nx)), (0, .int (nI (0))), (1, .int (nI (m))), (2, .int (nI (n)))]) dX9_way_8 (by decide) rfl ?_
  refine aw_aload_n dX9_way_9 rfl ?_
  refine aw_getN 0 k1 rfl rfl (by decide) w_887 rfl dX9_way_10 ?_
  refine aw_astore (L' := [(4, .ref (nx + 1)), (3, .ref (nx)), (0, .int (nI (0))), (1, .int (nI (m))), (2, .int (nI (n)))]) dX9_way_13 (by decide) rfl ?_
  refine aw_iload_n dX9_way_15 rfl ?_
  have hx : (nI 0).toInt = 0 := by decide
  refine aw_tableIn (off := 52) (tgt := 68) dX9_way_16 (by rw [hx]; decide) (by rw [hx]; decide) (by rw [hx]; rfl) (by decide) ?_
  have hmn : m < n := by omega
  refine aw_ic dX9_way_68 ic_0 ?_
  refine aw_istore (L' := [(5, .int (nI (0))), (4, .ref (nx + 1)), (3, .ref (nx)), (0, .int (nI (0))), (1, .int (nI (m))), (2, .int (nI (n)))]) dX9_way_69 (by decide) rfl ?_
  have K : ∀ (d : Nat) (i : Nat) (h1 : aH), n - i < d → (i ≤ n) → (h1 nx = some (.inr (7, [.ref (nx + 1), .ref (nx + 2)]))) → (∃ f : Nat → Int32, h1 (nx + 1) = some (.inl (0, n, .inl f)) ∧ ∀ j, j < i → f j = nI ((j + m) % n)) → (h1 (nx + 2) = some (.inl (1, n, .inl g0))) → (aOff h h1 nx 3) → aw G mX9_way [] (aRoom 2 3 34) (aEnd G (pQ (fun r h1 n1 => r = some (.ref nx) ∧ n1 = nx + 3 ∧ WayAt h1 nx (layL 0 m n) ∧ aOff h h1 nx 3)) 3 34) 3 34 h1 (nx + 3) 71 [(0, .int (nI (0))), (1, .int (nI (m))), (2, .int (nI (n))), (3, .ref (nx)), (4, .ref (nx + 1)), (5, .int (nI (i)))] [] := by
    intro d
    induction d with
    | zero => intro i h1 hMd; exact absurd hMd (Nat.not_lt_zero _)
    | succ d ih =>
      intro i h1 hMd hi q1 qf q3 ho
      obtain ⟨f, q2, qp⟩ := qf
      have hml := Nat.mod_lt (i + m) (show 0 < n by omega)
      refine aw_iload dX9_way_71 rfl ?_
      refine aw_iload_n dX9_way_73 rfl ?_
      refine aw_icmp_geN (tgt := 94) (by omega) (by omega) dX9_way_74 (by decide) (fun c1 => ?_) (fun c1 => ?_)
      · skip
        refine aw_aload_n dX9_way_94 rfl ?_
        exact aw_areturn dX9_way_95 rfl (Or.inl ⟨_, rfl⟩) (Or.inr ⟨_, rfl⟩) ⟨_, rfl, rfl, rfl, way_end hO (by decide) q1 q2 q3 (fun i hi => by rw [qp i (by omega), wy_0 n (by omega) m (by omega) hO i hi]) hg0, ho⟩ (Nat.le_of_ble_eq_true rfl) (Nat.le_of_ble_eq_true rfl)
      · skip
        refine aw_aload dX9_way_77 rfl ?_
        refine aw_iload dX9_way_79 rfl ?_
        refine aw_iload dX9_way_81 rfl ?_
        refine aw_iload_n dX9_way_83 rfl ?_
        refine aw_iaddN dX9_way_84 ?_
        refine aw_iload_n dX9_way_85 rfl ?_
        refine aw_iremN (by omega) (by omega) (by omega) dX9_way_86 ?_
        refine aw_iastoreV q2 (by omega) (by omega) dX9_way_87 (fun h_3 f_2 o_3 => ?_)
        have f_3 := (o_3 nx (by omega)).trans q1
        have f_4 := (o_3 (nx + 2) (by omega)).trans q3
        refine aw_iincN (k := 1) (L' := [(5, .int (nI (i + 1))), (0, .int (nI (0))), (1, .int (nI (m))), (2, .int (nI (n))), (3, .ref (nx)), (4, .ref (nx + 1))]) dX9_way_88 (by decide) rfl (by decide) rfl ?_
        refine aw_goto (tgt := 71) dX9_way_91 (by decide) ?_
        refine aw_sub (L' := [(0, .int (nI (0))), (1, .int (nI (m))), (2, .int (nI (n))), (3, .ref (nx)), (4, .ref (nx + 1)), (5, .int (nI (i + 1)))]) [1, 2, 3, 4, 5, 0] rfl ?_
        exact ih (i + 1) h_3 (by omega) (by omega) f_3 ⟨_, f_2, fun j hj => (by unfold upd; by_cases z : j = i; rw [if_pos z, z]; rw [if_neg z]; exact qp j (by omega))⟩ f_4 (fun a ha => ((o_3 a (by omega))).trans (ho a ha))
  refine aw_sub (L' := [(0, .int (nI (0))), (1, .int (nI (m))), (2, .int (nI (n))), (3, .ref (nx)), (4, .ref (nx + 1)), (5, .int (nI (0)))]) [3, 4, 5, 2, 1, 0] rfl ?_
  exact K (n + 1) 0 h_2 (by omega) (Nat.zero_le _) k1 ⟨f0, k2, fun j hj => absurd hj (Nat.not_lt_zero _)⟩ k3 oA
set_option maxHeartbeats 4000000 in
set_option maxRecDepth 20000 in
/-- way(1, 0, n) -/
theorem c_X9_way1 (G : aG) {h : aH} {nx m n : Nat} (hn : 2 ≤ n ∧ n ≤ 16) (hO : isO (1 : Nat) (0 : Nat) n = true) : aMet G mX9_way 2 3 34 [.int (nI (1)), .int (nI (0)), .int (nI (n))] h nx (pQ (fun r h1 n1 => r = some (.ref nx) ∧ n1 = nx + 3 ∧ WayAt h1 nx (layL 1 0 n) ∧ aOff h h1 nx 3)) := by
  have hO2 := (of_decide_eq_true hO).2
  refine aMet_of rfl (Nat.le_of_ble_eq_true rfl) ?_
  show aw G mX9_way [] (aRoom 2 3 34) (aEnd G (pQ (fun r h1 n1 => r = some (.ref nx) ∧ n1 = nx + 3 ∧ WayAt h1 nx (layL 1 0 n) ∧ aOff h h1 nx 3)) 3 34) 0 0 h nx 0 [(0, .int (nI (1))), (1, .int (nI (0))), (2, .int (nI (n)))] []
  refine aw_newV (ci := 7) (fs := [.null, .null]) rfl w_879 w_880 w_24 (by decide +kernel) (Nat.le_of_ble_eq_true rfl) (Nat.le_of_ble_eq_true rfl) dX9_way_0 (fun h_1 f_1 o_1 => ?_)
  refine aw_dup dX9_way_3 rfl ?_
  refine aw_iload_n dX9_way_4 rfl ?_
  refine aw_callIQ (As := [.int (nI (n))]) (rest := [.ref (nx)]) (c_X8_init G f_1 hn.2) kX8_init w_881 rfl rfl (Nat.le_of_ble_eq_true rfl) dX9_way_5 ⟨Nat.le_of_ble_eq_true rfl, Nat.le_of_ble_eq_true rfl⟩ ⟨Nat.le_of_ble_eq_true rfl, Nat.le_of_ble_eq_true rfl⟩ (fun v_1 h_2 n_1 q_1 z_1 => ?_)
  obtain ⟨rfl, rfl, X_1, o_2⟩ := q_1
  refine aw_nx (show _ = nx + 3 from rfl) ?_
  obtain ⟨f0, g0, k1, k2, k3, k4⟩ := X_1
  rw [idL_len] at k2 k3 k4
  have hf0 : ∀ i, i < n → f0 i = nI i := fun i hi => by rw [(k4 i hi).1, idL_at hi]; congr 1; omega
  have hg0 : ∀ i, i < n → g0 i = bI false := fun i hi => by rw [(k4 i hi).2, idL_at hi, decide_eq_false (by omega)]
  have oA : aOff h h_2 nx 3 := fun a ha => (o_2 a (by omega)).trans (o_1 a (by omega))
  refine aw_astore_n (L' := [(3, .ref (nx)), (0, .int (nI (1))), (1, .int (nI (0))), (2, .int (nI (n)))]) dX9_way_8 (by decide) rfl ?_
  refine aw_aload_n dX9_way_9 rfl ?_
  refine aw_getN 0 k1 rfl rfl (by decide) w_887 rfl dX9_way_10 ?_
  refine aw_astore (L' := [(4, .ref (nx + 1)), (3, .ref (nx)), (0, .int (nI (1))), (1, .int (nI (0))), (2, .int (nI (n)))]) dX9_way_13 (by decide) rfl ?_
  refine aw_iload_n dX9_way_15 rfl ?_
  have hx : (nI 1).toInt = 1 := by decide
  refine aw_tableIn (off := 80) (tgt := 96) dX9_way_16 (by rw [hx]; decide) (by rw [hx]; decide) (by rw [hx]; rfl) (by decide) ?_
  refine aw_iload_n dX9_way_96 rfl ?_
  refine aw_ic dX9_way_97 ic_1 ?_
  refine aw_icmp_neN (tgt := 105) (by omega) (by omega) dX9_way_98 (by decide) (fun c0 => absurd c0 (by omega)) (fun c0 => ?_)
  refine aw_ic dX9_way_101 ic_0 ?_
  refine aw_goto (tgt := 108) dX9_way_102 (by decide) ?_
  refine aw_istore (L' := [(5, .int (nI (0))), (4, .ref (nx + 1)), (3, .ref (nx)), (0, .int (nI (1))), (1, .int (nI (0))), (2, .int (nI (n)))]) dX9_way_108 (by decide) rfl ?_
  refine aw_ic dX9_way_110 ic_0 ?_
  refine aw_istore (L' := [(6, .int (nI (0))), (5, .int (nI (0))), (4, .ref (nx + 1)), (3, .ref (nx)), (0, .int (nI (1))), (1, .int (nI (0))), (2, .int (nI (n)))]) dX9_way_111 (by decide) rfl ?_
  have K : ∀ (d : Nat) (i : Nat) (h1 : aH), n - i < d → (i ≤ n) → (h1 nx = some (.inr (7, [.ref (nx + 1), .ref (nx + 2)]))) → (∃ f : Nat → Int32, h1 (nx + 1) = some (.inl (0, n, .inl f)) ∧ ∀ j, j < i → f j = nI (if j % 2 = 0 then 0 + j / 2 else n / 2 - 0 + j / 2)) → (h1 (nx + 2) = some (.inl (1, n, .inl g0))) → (aOff h h1 nx 3) → aw G mX9_way [] (aRoom 2 3 34) (aEnd G (pQ (fun r h1 n1 => r = some (.ref nx) ∧ n1 = nx + 3 ∧ WayAt h1 nx (layL 1 0 n) ∧ aOff h h1 nx 3)) 3 34) 3 34 h1 (nx + 3) 113 [(0, .int (nI (1))), (1, .int (nI (0))), (2, .int (nI (n))), (3, .ref (nx)), (4, .ref (nx + 1)), (5, .int (nI (0))), (6, .int (nI (i)))] [] := by
    intro d
    induction d with
    | zero => intro i h1 hMd; exact absurd hMd (Nat.not_lt_zero _)
    | succ d ih =>
      intro i h1 hMd hi q1 qf q3 ho
      obtain ⟨f, q2, qp⟩ := qf
      have hml := Nat.mod_lt i (show 0 < 2 by decide)
      refine aw_iload dX9_way_113 rfl ?_
      refine aw_iload_n dX9_way_115 rfl ?_
      refine aw_icmp_geN (tgt := 158) (by omega) (by omega) dX9_way_116 (by decide) (fun c1 => ?_) (fun c1 => ?_)
      · skip
        refine aw_aload_n dX9_way_158 rfl ?_
        exact aw_areturn dX9_way_159 rfl (Or.inl ⟨_, rfl⟩) (Or.inr ⟨_, rfl⟩) ⟨_, rfl, rfl, rfl, way_end hO (by decide) q1 q2 q3 (fun i hi => by rw [qp i (by omega), wy_1 n (by omega) hO i hi]) hg0, ho⟩ (Nat.le_of_ble_eq_true rfl) (Nat.le_of_ble_eq_true rfl)
      · skip
        refine aw_aload dX9_way_119 rfl ?_
        refine aw_iload dX9_way_121 rfl ?_
        refine aw_iload dX9_way_123 rfl ?_
        refine aw_ic dX9_way_125 ic_2 ?_
        refine aw_iremN (by omega) (by omega) (by omega) dX9_way_126 ?_
        refine aw_if_neN (tgt := 140) (by omega) dX9_way_127 (by decide) (fun c2 => ?_) (fun c2 => ?_)
        · skip
          refine aw_iload_n dX9_way_140 rfl ?_
          refine aw_ic dX9_way_141 ic_2 ?_
          refine aw_idivN (by omega) (by omega) (by omega) dX9_way_142 ?_
          refine aw_iload dX9_way_143 rfl ?_
          refine aw_isubN (by omega) dX9_way_145 ?_
          refine aw_iload dX9_way_146 rfl ?_
          refine aw_ic dX9_way_148 ic_2 ?_
          refine aw_idivN (by omega) (by omega) (by omega) dX9_way_149 ?_
          refine aw_iaddN dX9_way_150 ?_
          refine aw_iastoreV q2 (by omega) (by omega) dX9_way_151 (fun h_3 f_2 o_3 => ?_)
          have f_3 := (o_3 nx (by omega)).trans q1
          have f_4 := (o_3 (nx + 2) (by omega)).trans q3
          refine aw_iincN (k := 1) (L' := [(6, .int (nI (i + 1))), (0, .int (nI (1))), (1, .int (nI (0))), (2, .int (nI (n))), (3, .ref (nx)), (4, .ref (nx + 1)), (5, .int (nI (0)))]) dX9_way_152 (by decide) rfl (by decide) rfl ?_
          refine aw_goto (tgt := 113) dX9_way_155 (by decide) ?_
          refine aw_sub (L' := [(0, .int (nI (1))), (1, .int (nI (0))), (2, .int (nI (n))), (3, .ref (nx)), (4, .ref (nx + 1)), (5, .int (nI (0))), (6, .int (nI (i + 1)))]) [1, 2, 3, 4, 5, 6, 0] rfl ?_
          exact ih (i + 1) h_3 (by omega) (by omega) f_3 ⟨_, f_2, fun j hj => (by unfold upd; by_cases z : j = i; rw [if_pos z, z, if_neg (by omega)]; rw [if_neg z]; exact qp j (by omega))⟩ f_4 (fun a ha => ((o_3 a (by omega))).trans (ho a ha))
        · skip
          refine aw_iload dX9_way_130 rfl ?_
          refine aw_iload dX9_way_132 rfl ?_
          refine aw_ic dX9_way_134 ic_2 ?_
          refine aw_idivN (by omega) (by omega) (by omega) dX9_way_135 ?_
          refine aw_iaddN dX9_way_136 ?_
          refine aw_goto (tgt := 151) dX9_way_137 (by decide) ?_
          refine aw_iastoreV q2 (by omega) (by omega) dX9_way_151 (fun h_4 f_5 o_4 => ?_)
          have f_6 := (o_4 nx (by omega)).trans q1
          have f_7 := (o_4 (nx + 2) (by omega)).trans q3
          refine aw_iincN (k := 1) (L' := [(6, .int (nI (i + 1))), (0, .int (nI (1))), (1, .int (nI (0))), (2, .int (nI (n))), (3, .ref (nx)), (4, .ref (nx + 1)), (5, .int (nI (0)))]) dX9_way_152 (by decide) rfl (by decide) rfl ?_
          refine aw_goto (tgt := 113) dX9_way_155 (by decide) ?_
          refine aw_sub (L' := [(0, .int (nI (1))), (1, .int (nI (0))), (2, .int (nI (n))), (3, .ref (nx)), (4, .ref (nx + 1)), (5, .int (nI (0))), (6, .int (nI (i + 1)))]) [1, 2, 3, 4, 5, 6, 0] rfl ?_
          exact ih (i + 1) h_4 (by omega) (by omega) f_6 ⟨_, f_5, fun j hj => (by unfold upd; by_cases z : j = i; rw [if_pos z, z, if_pos c2]; rw [if_neg z]; exact qp j (by omega))⟩ f_7 (fun a ha => ((o_4 a (by omega))).trans (ho a ha))
  refine aw_sub (L' := [(0, .int (nI (1))), (1, .int (nI (0))), (2, .int (nI (n))), (3, .ref (nx)), (4, .ref (nx + 1)), (5, .int (nI (0))), (6, .int (nI (0)))]) [4, 5, 6, 3, 2, 1, 0] rfl ?_
  exact K (n + 1) 0 h_2 (by omega) (Nat.zero_le _) k1 ⟨f0, k2, fun j hj => absurd hj (Nat.not_lt_zero _)⟩ k3 oA
set_option maxHeartbeats 4000000 in
set_option maxRecDepth 20000 in
/-- way(2, 0, n) -/
theorem c_X9_way2 (G : aG) {h : aH} {nx m n : Nat} (hn : 2 ≤ n ∧ n ≤ 16) (hO : isO (2 : Nat) (0 : Nat) n = true) : aMet G mX9_way 2 3 34 [.int (nI (2)), .int (nI (0)), .int (nI (n))] h nx (pQ (fun r h1 n1 => r = some (.ref nx) ∧ n1 = nx + 3 ∧ WayAt h1 nx (layL 2 0 n) ∧ aOff h h1 nx 3)) := by
  have hO2 := (of_decide_eq_true hO).2
  refine aMet_of rfl (Nat.le_of_ble_eq_true rfl) ?_
  show aw G mX9_way [] (aRoom 2 3 34) (aEnd G (pQ (fun r h1 n1 => r = some (.ref nx) ∧ n1 = nx + 3 ∧ WayAt h1 nx (layL 2 0 n) ∧ aOff h h1 nx 3)) 3 34) 0 0 h nx 0 [(0, .int (nI (2))), (1, .int (nI (0))), (2, .int (nI (n)))] []
  refine aw_newV (ci := 7) (fs := [.null, .null]) rfl w_879 w_880 w_24 (by decide +kernel) (Nat.le_of_ble_eq_true rfl) (Nat.le_of_ble_eq_true rfl) dX9_way_0 (fun h_1 f_1 o_1 => ?_)
  refine aw_dup dX9_way_3 rfl ?_
  refine aw_iload_n dX9_way_4 rfl ?_
  refine aw_callIQ (As := [.int (nI (n))]) (rest := [.ref (nx)]) (c_X8_init G f_1 hn.2) kX8_init w_881 rfl rfl (Nat.le_of_ble_eq_true rfl) dX9_way_5 ⟨Nat.le_of_ble_eq_true rfl, Nat.le_of_ble_eq_true rfl⟩ ⟨Nat.le_of_ble_eq_true rfl, Nat.le_of_ble_eq_true rfl⟩ (fun v_1 h_2 n_1 q_1 z_1 => ?_)
  obtain ⟨rfl, rfl, X_1, o_2⟩ := q_1
  refine aw_nx (show _ = nx + 3 from rfl) ?_
  obtain ⟨f0, g0, k1, k2, k3, k4⟩ := X_1
  rw [idL_len] at k2 k3 k4
  have hf0 : ∀ i, i < n → f0 i = nI i := fun i hi => by rw [(k4 i hi).1, idL_at hi]; congr 1; omega
  have hg0 : ∀ i, i < n → g0 i = bI false := fun i hi => by rw [(k4 i hi).2, idL_at hi, decide_eq_false (by omega)]
  have oA : aOff h h_2 nx 3 := fun a ha => (o_2 a (by omega)).trans (o_1 a (by omega))
  refine aw_astore_n (L' := [(3, .ref (nx)), (0, .int (nI (2))), (1, .int (nI (0))), (2, .int (nI (n)))]) dX9_way_8 (by decide) rfl ?_
  refine aw_aload_n dX9_way_9 rfl ?_
  refine aw_getN 0 k1 rfl rfl (by decide) w_887 rfl dX9_way_10 ?_
  refine aw_astore (L' := [(4, .ref (nx + 1)), (3, .ref (nx)), (0, .int (nI (2))), (1, .int (nI (0))), (2, .int (nI (n)))]) dX9_way_13 (by decide) rfl ?_
  refine aw_iload_n dX9_way_15 rfl ?_
  have hx : (nI 2).toInt = 2 := by decide
  refine aw_tableIn (off := 80) (tgt := 96) dX9_way_16 (by rw [hx]; decide) (by rw [hx]; decide) (by rw [hx]; rfl) (by decide) ?_
  refine aw_iload_n dX9_way_96 rfl ?_
  refine aw_ic dX9_way_97 ic_1 ?_
  refine aw_icmp_neN (tgt := 105) (by omega) (by omega) dX9_way_98 (by decide) (fun c0 => ?_) (fun c0 => absurd c0 (by omega))
  refine aw_iload_n dX9_way_105 rfl ?_
  refine aw_ic dX9_way_106 ic_2 ?_
  refine aw_idivN (by omega) (by omega) (by omega) dX9_way_107 ?_
  refine aw_istore (L' := [(5, .int (nI (n / 2))), (4, .ref (nx + 1)), (3, .ref (nx)), (0, .int (nI (2))), (1, .int (nI (0))), (2, .int (nI (n)))]) dX9_way_108 (by decide) rfl ?_
  refine aw_ic dX9_way_110 ic_0 ?_
  refine aw_istore (L' := [(6, .int (nI (0))), (5, .int (nI (n / 2))), (4, .ref (nx + 1)), (3, .ref (nx)), (0, .int (nI (2))), (1, .int (nI (0))), (2, .int (nI (n)))]) dX9_way_111 (by decide) rfl ?_
  have K : ∀ (d : Nat) (i : Nat) (h1 : aH), n - i < d → (i ≤ n) → (h1 nx = some (.inr (7, [.ref (nx + 1), .ref (nx + 2)]))) → (∃ f : Nat → Int32, h1 (nx + 1) = some (.inl (0, n, .inl f)) ∧ ∀ j, j < i → f j = nI (if j % 2 = 0 then n / 2 + j / 2 else n / 2 - n / 2 + j / 2)) → (h1 (nx + 2) = some (.inl (1, n, .inl g0))) → (aOff h h1 nx 3) → aw G mX9_way [] (aRoom 2 3 34) (aEnd G (pQ (fun r h1 n1 => r = some (.ref nx) ∧ n1 = nx + 3 ∧ WayAt h1 nx (layL 2 0 n) ∧ aOff h h1 nx 3)) 3 34) 3 34 h1 (nx + 3) 113 [(0, .int (nI (2))), (1, .int (nI (0))), (2, .int (nI (n))), (3, .ref (nx)), (4, .ref (nx + 1)), (5, .int (nI (n / 2))), (6, .int (nI (i)))] [] := by
    intro d
    induction d with
    | zero => intro i h1 hMd; exact absurd hMd (Nat.not_lt_zero _)
    | succ d ih =>
      intro i h1 hMd hi q1 qf q3 ho
      obtain ⟨f, q2, qp⟩ := qf
      have hml := Nat.mod_lt i (show 0 < 2 by decide)
      refine aw_iload dX9_way_113 rfl ?_
      refine aw_iload_n dX9_way_115 rfl ?_
      refine aw_icmp_geN (tgt := 158) (by omega) (by omega) dX9_way_116 (by decide) (fun c1 => ?_) (fun c1 => ?_)
      · skip
        refine aw_aload_n dX9_way_158 rfl ?_
        exact aw_areturn dX9_way_159 rfl (Or.inl ⟨_, rfl⟩) (Or.inr ⟨_, rfl⟩) ⟨_, rfl, rfl, rfl, way_end hO (by decide) q1 q2 q3 (fun i hi => by rw [qp i (by omega), wy_2 n (by omega) hO i hi]) hg0, ho⟩ (Nat.le_of_ble_eq_true rfl) (Nat.le_of_ble_eq_true rfl)
      · skip
        refine aw_aload dX9_way_119 rfl ?_
        refine aw_iload dX9_way_121 rfl ?_
        refine aw_iload dX9_way_123 rfl ?_
        refine aw_ic dX9_way_125 ic_2 ?_
        refine aw_iremN (by omega) (by omega) (by omega) dX9_way_126 ?_
        refine aw_if_neN (tgt := 140) (by omega) dX9_way_127 (by decide) (fun c2 => ?_) (fun c2 => ?_)
        · skip
          refine aw_iload_n dX9_way_140 rfl ?_
          refine aw_ic dX9_way_141 ic_2 ?_
          refine aw_idivN (by omega) (by omega) (by omega) dX9_way_142 ?_
          refine aw_iload dX9_way_143 rfl ?_
          refine aw_isubN (by omega) dX9_way_145 ?_
          refine aw_iload dX9_way_146 rfl ?_
          refine aw_ic dX9_way_148 ic_2 ?_
          refine aw_idivN (by omega) (by omega) (by omega) dX9_way_149 ?_
          refine aw_iaddN dX9_way_150 ?_
          refine aw_iastoreV q2 (by omega) (by omega) dX9_way_151 (fun h_3 f_2 o_3 => ?_)
          have f_3 := (o_3 nx (by omega)).trans q1
          have f_4 := (o_3 (nx + 2) (by omega)).trans q3
          refine aw_iincN (k := 1) (L' := [(6, .int (nI (i + 1))), (0, .int (nI (2))), (1, .int (nI (0))), (2, .int (nI (n))), (3, .ref (nx)), (4, .ref (nx + 1)), (5, .int (nI (n / 2)))]) dX9_way_152 (by decide) rfl (by decide) rfl ?_
          refine aw_goto (tgt := 113) dX9_way_155 (by decide) ?_
          refine aw_sub (L' := [(0, .int (nI (2))), (1, .int (nI (0))), (2, .int (nI (n))), (3, .ref (nx)), (4, .ref (nx + 1)), (5, .int (nI (n / 2))), (6, .int (nI (i + 1)))]) [1, 2, 3, 4, 5, 6, 0] rfl ?_
          exact ih (i + 1) h_3 (by omega) (by omega) f_3 ⟨_, f_2, fun j hj => (by unfold upd; by_cases z : j = i; rw [if_pos z, z, if_neg (by omega)]; rw [if_neg z]; exact qp j (by omega))⟩ f_4 (fun a ha => ((o_3 a (by omega))).trans (ho a ha))
        · skip
          refine aw_iload dX9_way_130 rfl ?_
          refine aw_iload dX9_way_132 rfl ?_
          refine aw_ic dX9_way_134 ic_2 ?_
          refine aw_idivN (by omega) (by omega) (by omega) dX9_way_135 ?_
          refine aw_iaddN dX9_way_136 ?_
          refine aw_goto (tgt := 151) dX9_way_137 (by decide) ?_
          refine aw_iastoreV q2 (by omega) (by omega) dX9_way_151 (fun h_4 f_5 o_4 => ?_)
          have f_6 := (o_4 nx (by omega)).trans q1
          have f_7 := (o_4 (nx + 2) (by omega)).trans q3
          refine aw_iincN (k := 1) (L' := [(6, .int (nI (i + 1))), (0, .int (nI (2))), (1, .int (nI (0))), (2, .int (nI (n))), (3, .ref (nx)), (4, .ref (nx + 1)), (5, .int (nI (n / 2)))]) dX9_way_152 (by decide) rfl (by decide) rfl ?_
          refine aw_goto (tgt := 113) dX9_way_155 (by decide) ?_
          refine aw_sub (L' := [(0, .int (nI (2))), (1, .int (nI (0))), (2, .int (nI (n))), (3, .ref (nx)), (4, .ref (nx + 1)), (5, .int (nI (n / 2))), (6, .int (nI (i + 1)))]) [1, 2, 3, 4, 5, 6, 0] rfl ?_
          exact ih (i + 1) h_4 (by omega) (by omega) f_6 ⟨_, f_5, fun j hj => (by unfold upd; by_cases z : j = i; rw [if_pos z, z, if_pos c2]; rw [if_neg z]; exact qp j (by omega))⟩ f_7 (fun a ha => ((o_4 a (by omega))).trans (ho a ha))
  refine aw_sub (L' := [(0, .int (nI (2))), (1, .int (nI (0))), (2, .int (nI (n))), (3, .ref (nx)), (4, .ref (nx + 1)), (5, .int (nI (n / 2))), (6, .int (nI (0)))]) [4, 5, 6, 3, 2, 1, 0] rfl ?_
  exact K (n + 1) 0 h_2 (by omega) (Nat.zero_le _) k1 ⟨f0, k2, fun j hj => absurd hj (Nat.not_lt_zero _)⟩ k3 oA
set_option maxHeartbeats 4000000 in
set_option maxRecDepth 20000 in
/-- way(3, 0, n) -/
theorem c_X9_way3 (G : aG) {h : aH} {nx m n : Nat} (hn : 2 ≤ n ∧ n ≤ 16) (hO : isO (3 : Nat) (0 : Nat) n = true) : aMet G mX9_way 2 3 34 [.int (nI (3)), .int (nI (0)), .int (nI (n))] h nx (pQ (fun r h1 n1 => r = some (.ref nx) ∧ n1 = nx + 3 ∧ WayAt h1 nx (layL 3 0 n) ∧ aOff h h1 nx 3)) := by
  have hO2 := (of_decide_eq_true hO).2
  refine aMet_of rfl (Nat.le_of_ble_eq_true rfl) ?_
  show aw G mX9_way [] (aRoom 2 3 34) (aEnd G (pQ (fun r h1 n1 => r = some (.ref nx) ∧ n1 = nx + 3 ∧ WayAt h1 nx (layL 3 0 n) ∧ aOff h h1 nx 3)) 3 34) 0 0 h nx 0 [(0, .int (nI (3))), (1, .int (nI (0))), (2, .int (nI (n)))] []
  refine aw_newV (ci := 7) (fs := [.null, .null]) rfl w_879 w_880 w_24 (by decide +kernel) (Nat.le_of_ble_eq_true rfl) (Nat.le_of_ble_eq_true rfl) dX9_way_0 (fun h_1 f_1 o_1 => ?_)
  refine aw_dup dX9_way_3 rfl ?_
  refine aw_iload_n dX9_way_4 rfl ?_
  refine aw_callIQ (As := [.int (nI (n))]) (rest := [.ref (nx)]) (c_X8_init G f_1 hn.2) kX8_init w_881 rfl rfl (Nat.le_of_ble_eq_true rfl) dX9_way_5 ⟨Nat.le_of_ble_eq_true rfl, Nat.le_of_ble_eq_true rfl⟩ ⟨Nat.le_of_ble_eq_true rfl, Nat.le_of_ble_eq_true rfl⟩ (fun v_1 h_2 n_1 q_1 z_1 => ?_)
  obtain ⟨rfl, rfl, X_1, o_2⟩ := q_1
  refine aw_nx (show _ = nx + 3 from rfl) ?_
  obtain ⟨f0, g0, k1, k2, k3, k4⟩ := X_1
  rw [idL_len] at k2 k3 k4
  have hf0 : ∀ i, i < n → f0 i = nI i := fun i hi => by rw [(k4 i hi).1, idL_at hi]; congr 1; omega
  have hg0 : ∀ i, i < n → g0 i = bI false := fun i hi => by rw [(k4 i hi).2, idL_at hi, decide_eq_false (by omega)]
  have oA : aOff h h_2 nx 3 := fun a ha => (o_2 a (by omega)).trans (o_1 a (by omega))
  refine aw_astore_n (L' := [(3, .ref (nx)), (0, .int (nI (3))), (1, .int (nI (0))), (2, .int (nI (n)))]) dX9_way_8 (by decide) rfl ?_
  refine aw_aload_n dX9_way_9 rfl ?_
  refine aw_getN 0 k1 rfl rfl (by decide) w_887 rfl dX9_way_10 ?_
  refine aw_astore (L' := [(4, .ref (nx + 1)), (3, .ref (nx)), (0, .int (nI (3))), (1, .int (nI (0))), (2, .int (nI (n)))]) dX9_way_13 (by decide) rfl ?_
  refine aw_iload_n dX9_way_15 rfl ?_
  have hx : (nI 3).toInt = 3 := by decide
  refine aw_tableIn (off := 144) (tgt := 160) dX9_way_16 (by rw [hx]; decide) (by rw [hx]; decide) (by rw [hx]; rfl) (by decide) ?_
  refine aw_iload_n dX9_way_160 rfl ?_
  refine aw_ic dX9_way_161 ic_2 ?_
  refine aw_idivN (by omega) (by omega) (by omega) dX9_way_162 ?_
  refine aw_istore (L' := [(5, .int (nI (n / 2))), (4, .ref (nx + 1)), (3, .ref (nx)), (0, .int (nI (3))), (1, .int (nI (0))), (2, .int (nI (n)))]) dX9_way_163 (by decide) rfl ?_
  refine aw_ic dX9_way_165 ic_0 ?_
  refine aw_istore (L' := [(6, .int (nI (0))), (5, .int (nI (n / 2))), (4, .ref (nx + 1)), (3, .ref (nx)), (0, .int (nI (3))), (1, .int (nI (0))), (2, .int (nI (n)))]) dX9_way_166 (by decide) rfl ?_
  have K : ∀ (d : Nat) (i : Nat) (h1 : aH), n - i < d → (i ≤ n) → (h1 nx = some (.inr (7, [.ref (nx + 1), .ref (nx + 2)]))) → (∃ f : Nat → Int32, h1 (nx + 1) = some (.inl (0, n, .inl f)) ∧ ∀ j, j < n → (layL 3 0 n).getD j 0 / 2 < i → f j = nI ((layL 3 0 n).getD j 0 / 2)) → (h1 (nx + 2) = some (.inl (1, n, .inl g0))) → (aOff h h1 nx 3) → aw G mX9_way [] (aRoom 2 3 34) (aEnd G (pQ (fun r h1 n1 => r = some (.ref nx) ∧ n1 = nx + 3 ∧ WayAt h1 nx (layL 3 0 n) ∧ aOff h h1 nx 3)) 3 34) 3 34 h1 (nx + 3) 168 [(0, .int (nI (3))), (1, .int (nI (0))), (2, .int (nI (n))), (3, .ref (nx)), (4, .ref (nx + 1)), (5, .int (nI (n / 2))), (6, .int (nI (i)))] [] := by
    intro d
    induction d with
    | zero => intro i h1 hMd; exact absurd hMd (Nat.not_lt_zero _)
    | succ d ih =>
      intro i h1 hMd hi q1 qf q3 ho
      obtain ⟨f, q2, qp⟩ := qf
      have hml := Nat.mod_lt i (show 0 < 2 by decide)
      refine aw_iload dX9_way_168 rfl ?_
      refine aw_iload_n dX9_way_170 rfl ?_
      refine aw_icmp_geN (tgt := 212) (by omega) (by omega) dX9_way_171 (by decide) (fun c1 => ?_) (fun c1 => ?_)
      · skip
        refine aw_aload_n dX9_way_212 rfl ?_
        exact aw_areturn dX9_way_213 rfl (Or.inl ⟨_, rfl⟩) (Or.inr ⟨_, rfl⟩) ⟨_, rfl, rfl, rfl, way_end hO (by decide) q1 q2 q3 (fun i hi => qp i hi (by have := (lay_cOk hO).lt hi; omega)) hg0, ho⟩ (Nat.le_of_ble_eq_true rfl) (Nat.le_of_ble_eq_true rfl)
      · skip
        obtain ⟨g1, g2, -⟩ := wy_3 n (by omega) hO i c1
        refine aw_aload dX9_way_174 rfl ?_
        refine aw_iload dX9_way_176 rfl ?_
        refine aw_ic dX9_way_178 ic_2 ?_
        refine aw_iremN (by omega) (by omega) (by omega) dX9_way_179 ?_
        refine aw_ic dX9_way_180 ic_1 ?_
        refine aw_icmp_neN (tgt := 196) (by omega) (by omega) dX9_way_181 (by decide) (fun c2 => ?_) (fun c2 => ?_)
        · skip
          have hp : mgP n i = n / 2 + i / 2 := if_neg c2
          refine aw_iload dX9_way_196 rfl ?_
          refine aw_iload dX9_way_198 rfl ?_
          refine aw_ic dX9_way_200 ic_2 ?_
          refine aw_idivN (by omega) (by omega) (by omega) dX9_way_201 ?_
          refine aw_iaddN dX9_way_202 ?_
          refine aw_iload dX9_way_203 rfl ?_
          refine aw_iastoreV q2 (by omega) (by omega) dX9_way_205 (fun h_3 f_2 o_3 => ?_)
          have f_3 := (o_3 nx (by omega)).trans q1
          have f_4 := (o_3 (nx + 2) (by omega)).trans q3
          refine aw_iincN (k := 1) (L' := [(6, .int (nI (i + 1))), (0, .int (nI (3))), (1, .int (nI (0))), (2, .int (nI (n))), (3, .ref (nx)), (4, .ref (nx + 1)), (5, .int (nI (n / 2)))]) dX9_way_206 (by decide) rfl (by decide) rfl ?_
          refine aw_goto (tgt := 168) dX9_way_209 (by decide) ?_
          refine aw_sub (L' := [(0, .int (nI (3))), (1, .int (nI (0))), (2, .int (nI (n))), (3, .ref (nx)), (4, .ref (nx + 1)), (5, .int (nI (n / 2))), (6, .int (nI (i + 1)))]) [1, 2, 3, 4, 5, 6, 0] rfl ?_
          exact ih (i + 1) h_3 (by omega) (by omega) f_3 ⟨_, f_2, fun j hj hl => (by obtain ⟨-, -, g3⟩ := wy_3 n (by omega) hO j hj; unfold upd; by_cases z : j = mgP n i; rw [if_pos (by rw [← hp]; exact z), z, g2]; rw [if_neg (by rw [← hp]; exact z)]; exact qp j hj (by have : (layL 3 0 n).getD j 0 / 2 ≠ i := fun w => z (by rw [← w]; exact g3.symm); omega))⟩ f_4 (fun a ha => ((o_3 a (by omega))).trans (ho a ha))
        · skip
          have hp : mgP n i = n / 2 - 1 - i / 2 := if_pos c2
          refine aw_iload dX9_way_184 rfl ?_
          refine aw_ic dX9_way_186 ic_1 ?_
          refine aw_isubN (by omega) dX9_way_187 ?_
          refine aw_iload dX9_way_188 rfl ?_
          refine aw_ic dX9_way_190 ic_2 ?_
          refine aw_idivN (by omega) (by omega) (by omega) dX9_way_191 ?_
          refine aw_isubN (by omega) dX9_way_192 ?_
          refine aw_goto (tgt := 203) dX9_way_193 (by decide) ?_
          refine aw_iload dX9_way_203 rfl ?_
          refine aw_iastoreV q2 (by omega) (by omega) dX9_way_205 (fun h_4 f_5 o_4 => ?_)
          have f_6 := (o_4 nx (by omega)).trans q1
          have f_7 := (o_4 (nx + 2) (by omega)).trans q3
          refine aw_iincN (k := 1) (L' := [(6, .int (nI (i + 1))), (0, .int (nI (3))), (1, .int (nI (0))), (2, .int (nI (n))), (3, .ref (nx)), (4, .ref (nx + 1)), (5, .int (nI (n / 2)))]) dX9_way_206 (by decide) rfl (by decide) rfl ?_
          refine aw_goto (tgt := 168) dX9_way_209 (by decide) ?_
          refine aw_sub (L' := [(0, .int (nI (3))), (1, .int (nI (0))), (2, .int (nI (n))), (3, .ref (nx)), (4, .ref (nx + 1)), (5, .int (nI (n / 2))), (6, .int (nI (i + 1)))]) [1, 2, 3, 4, 5, 6, 0] rfl ?_
          exact ih (i + 1) h_4 (by omega) (by omega) f_6 ⟨_, f_5, fun j hj hl => (by obtain ⟨-, -, g3⟩ := wy_3 n (by omega) hO j hj; unfold upd; by_cases z : j = mgP n i; rw [if_pos (by rw [← hp]; exact z), z, g2]; rw [if_neg (by rw [← hp]; exact z)]; exact qp j hj (by have : (layL 3 0 n).getD j 0 / 2 ≠ i := fun w => z (by rw [← w]; exact g3.symm); omega))⟩ f_7 (fun a ha => ((o_4 a (by omega))).trans (ho a ha))
  refine aw_sub (L' := [(0, .int (nI (3))), (1, .int (nI (0))), (2, .int (nI (n))), (3, .ref (nx)), (4, .ref (nx + 1)), (5, .int (nI (n / 2))), (6, .int (nI (0)))]) [4, 5, 6, 3, 2, 1, 0] rfl ?_
  exact K (n + 1) 0 h_2 (by omega) (Nat.zero_le _) k1 ⟨f0, k2, fun j hj hl => absurd hl (Nat.not_lt_zero _)⟩ k3 oA
set_option maxHeartbeats 4000000 in
set_option maxRecDepth 20000 in
/-- way(4, 0, n) -/
theorem c_X9_way4 (G : aG) {h : aH} {nx m n : Nat} (hn : 2 ≤ n ∧ n ≤ 16) (hO : isO (4 : Nat) (0 : Nat) n = true) : aMet G mX9_way 2 3 34 [.int (nI (4)), .int (nI (0)), .int (nI (n))] h nx (pQ (fun r h1 n1 => r = some (.ref nx) ∧ n1 = nx + 3 ∧ WayAt h1 nx (layL 4 0 n) ∧ aOff h h1 nx 3)) := by
  have hO2 := (of_decide_eq_true hO).2
  refine aMet_of rfl (Nat.le_of_ble_eq_true rfl) ?_
  show aw G mX9_way [] (aRoom 2 3 34) (aEnd G (pQ (fun r h1 n1 => r = some (.ref nx) ∧ n1 = nx + 3 ∧ WayAt h1 nx (layL 4 0 n) ∧ aOff h h1 nx 3)) 3 34) 0 0 h nx 0 [(0, .int (nI (4))), (1, .int (nI (0))), (2, .int (nI (n)))] []
  refine aw_newV (ci := 7) (fs := [.null, .null]) rfl w_879 w_880 w_24 (by decide +kernel) (Nat.le_of_ble_eq_true rfl) (Nat.le_of_ble_eq_true rfl) dX9_way_0 (fun h_1 f_1 o_1 => ?_)
  refine aw_dup dX9_way_3 rfl ?_
  refine aw_iload_n dX9_way_4 rfl ?_
  refine aw_callIQ (As := [.int (nI (n))]) (rest := [.ref (nx)]) (c_X8_init G f_1 hn.2) kX8_init w_881 rfl rfl (Nat.le_of_ble_eq_true rfl) dX9_way_5 ⟨Nat.le_of_ble_eq_true rfl, Nat.le_of_ble_eq_true rfl⟩ ⟨Nat.le_of_ble_eq_true rfl, Nat.le_of_ble_eq_true rfl⟩ (fun v_1 h_2 n_1 q_1 z_1 => ?_)
  obtain ⟨rfl, rfl, X_1, o_2⟩ := q_1
  refine aw_nx (show _ = nx + 3 from rfl) ?_
  obtain ⟨f0, g0, k1, k2, k3, k4⟩ := X_1
  rw [idL_len] at k2 k3 k4
  have hf0 : ∀ i, i < n → f0 i = nI i := fun i hi => by rw [(k4 i hi).1, idL_at hi]; congr 1; omega
  have hg0 : ∀ i, i < n → g0 i = bI false := fun i hi => by rw [(k4 i hi).2, idL_at hi, decide_eq_false (by omega)]
  have oA : aOff h h_2 nx 3 := fun a ha => (o_2 a (by omega)).trans (o_1 a (by omega))
  refine aw_astore_n (L' := [(3, .ref (nx)), (0, .int (nI (4))), (1, .int (nI (0))), (2, .int (nI (n)))]) dX9_way_8 (by decide) rfl ?_
  refine aw_aload_n dX9_way_9 rfl ?_
  refine aw_getN 0 k1 rfl rfl (by decide) w_887 rfl dX9_way_10 ?_
  refine aw_astore (L' := [(4, .ref (nx + 1)), (3, .ref (nx)), (0, .int (nI (4))), (1, .int (nI (0))), (2, .int (nI (n)))]) dX9_way_13 (by decide) rfl ?_
  refine aw_iload_n dX9_way_15 rfl ?_
  have hx : (nI 4).toInt = 4 := by decide
  refine aw_tableIn (off := 198) (tgt := 214) dX9_way_16 (by rw [hx]; decide) (by rw [hx]; decide) (by rw [hx]; rfl) (by decide) ?_
  obtain ⟨g1, g2⟩ := wy_4 n (by omega) hO
  refine aw_iload_n dX9_way_214 rfl ?_
  refine aw_istore (L' := [(5, .int (nI (n))), (4, .ref (nx + 1)), (3, .ref (nx)), (0, .int (nI (4))), (1, .int (nI (0))), (2, .int (nI (n)))]) dX9_way_215 (by decide) rfl ?_
  refine aw_ic dX9_way_217 ic_0 ?_
  refine aw_istore (L' := [(6, .int (nI (0))), (5, .int (nI (n))), (4, .ref (nx + 1)), (3, .ref (nx)), (0, .int (nI (4))), (1, .int (nI (0))), (2, .int (nI (n)))]) dX9_way_218 (by decide) rfl ?_
  have K : ∀ (d : Nat) (i p : Nat) (h1 : aH), n - i < d → (i ≤ n / 2 ∧ p = n - 2 * i) → (h1 nx = some (.inr (7, [.ref (nx + 1), .ref (nx + 2)]))) → (∃ f : Nat → Int32, h1 (nx + 1) = some (.inl (0, n, .inl f)) ∧ ∀ j, j < n → p ≤ j → f j = nI ((layL 4 0 n).getD j 0 / 2)) → (h1 (nx + 2) = some (.inl (1, n, .inl g0))) → (aOff h h1 nx 3) → aw G mX9_way [] (aRoom 2 3 34) (aEnd G (pQ (fun r h1 n1 => r = some (.ref nx) ∧ n1 = nx + 3 ∧ WayAt h1 nx (layL 4 0 n) ∧ aOff h h1 nx 3)) 3 34) 3 34 h1 (nx + 3) 220 [(0, .int (nI (4))), (1, .int (nI (0))), (2, .int (nI (n))), (3, .ref (nx)), (4, .ref (nx + 1)), (5, .int (nI (p))), (6, .int (nI (i)))] [] := by
    intro d
    induction d with
    | zero => intro i p h1 hMd; exact absurd hMd (Nat.not_lt_zero _)
    | succ d ih =>
      intro i p h1 hMd hi q1 qf q3 ho
      obtain ⟨f, q2, qp⟩ := qf
      refine aw_iload dX9_way_220 rfl ?_
      refine aw_iload_n dX9_way_222 rfl ?_
      refine aw_ic dX9_way_223 ic_2 ?_
      refine aw_idivN (by omega) (by omega) (by omega) dX9_way_224 ?_
      refine aw_icmp_geN (tgt := 257) (by omega) (by omega) dX9_way_225 (by decide) (fun c1 => ?_) (fun c1 => ?_)
      · skip
        refine aw_iload dX9_way_257 rfl ?_
        refine aw_ic dX9_way_259 ic_1 ?_
        refine aw_icmp_neN (tgt := 270) (by omega) (by omega) dX9_way_260 (by decide) (fun c2 => ?_) (fun c2 => ?_)
        · skip
          refine aw_aload_n dX9_way_270 rfl ?_
          exact aw_areturn dX9_way_271 rfl (Or.inl ⟨_, rfl⟩) (Or.inr ⟨_, rfl⟩) ⟨_, rfl, rfl, rfl, way_end hO (by decide) q1 q2 q3 (fun i hi => qp i hi (by omega)) hg0, ho⟩ (Nat.le_of_ble_eq_true rfl) (Nat.le_of_ble_eq_true rfl)
        · skip
          refine aw_aload dX9_way_263 rfl ?_
          refine aw_ic dX9_way_265 ic_0 ?_
          refine aw_iload_n dX9_way_266 rfl ?_
          refine aw_ic dX9_way_267 ic_2 ?_
          refine aw_idivN (by omega) (by omega) (by omega) dX9_way_268 ?_
          refine aw_iastoreV q2 (by omega) (by omega) dX9_way_269 (fun h_3 f_2 o_3 => ?_)
          have f_3 := (o_3 nx (by omega)).trans q1
          have f_4 := (o_3 (nx + 2) (by omega)).trans q3
          refine aw_aload_n dX9_way_270 rfl ?_
          exact aw_areturn dX9_way_271 rfl (Or.inl ⟨_, rfl⟩) (Or.inr ⟨_, rfl⟩) ⟨_, rfl, rfl, rfl, way_end hO (by decide) f_3 f_2 f_4 (fun i hi => by unfold upd; by_cases z : i = 0; rw [if_pos z, z, g2 (by omega)]; rw [if_neg z]; exact qp i hi (by omega)) hg0, (fun a ha => ((o_3 a (by omega))).trans (ho a ha))⟩ (Nat.le_of_ble_eq_true rfl) (Nat.le_of_ble_eq_true rfl)
      · skip
        obtain ⟨u1, u2⟩ := g1 i c1
        refine aw_iinc (L' := [(5, .int (nI (p - 2))), (0, .int (nI (4))), (1, .int (nI (0))), (2, .int (nI (n))), (3, .ref (nx)), (4, .ref (nx + 1)), (6, .int (nI (i)))]) dX9_way_228 rfl (show nI p + Int32.ofInt (-2) = nI (p - 2) from nI_dec2 p (by omega) (by omega)) (by decide) rfl ?_
        refine aw_aload dX9_way_231 rfl ?_
        refine aw_iload dX9_way_233 rfl ?_
        refine aw_iload dX9_way_235 rfl ?_
        refine aw_iastoreV q2 (by omega) (by omega) dX9_way_237 (fun h_4 f_5 o_4 => ?_)
        have f_6 := (o_4 nx (by omega)).trans q1
        have f_7 := (o_4 (nx + 2) (by omega)).trans q3
        refine aw_aload dX9_way_238 rfl ?_
        refine aw_iload dX9_way_240 rfl ?_
        refine aw_ic dX9_way_242 ic_1 ?_
        refine aw_iaddN dX9_way_243 ?_
        refine aw_iload_n dX9_way_244 rfl ?_
        refine aw_ic dX9_way_245 ic_1 ?_
        refine aw_isubN (by omega) dX9_way_246 ?_
        refine aw_iload dX9_way_247 rfl ?_
        refine aw_isubN (by omega) dX9_way_249 ?_
        refine aw_iastoreV f_5 (by omega) (by omega) dX9_way_250 (fun h_5 f_8 o_5 => ?_)
        have f_9 := (o_5 nx (by omega)).trans f_6
        have f_10 := (o_5 (nx + 2) (by omega)).trans f_7
        refine aw_iincN (k := 1) (L' := [(6, .int (nI (i + 1))), (5, .int (nI (p - 2))), (0, .int (nI (4))), (1, .int (nI (0))), (2, .int (nI (n))), (3, .ref (nx)), (4, .ref (nx + 1))]) dX9_way_251 (by decide) rfl (by decide) rfl ?_
        refine aw_goto (tgt := 220) dX9_way_254 (by decide) ?_
        refine aw_sub (L' := [(0, .int (nI (4))), (1, .int (nI (0))), (2, .int (nI (n))), (3, .ref (nx)), (4, .ref (nx + 1)), (5, .int (nI (p - 2))), (6, .int (nI (i + 1)))]) [2, 3, 4, 5, 6, 1, 0] rfl ?_
        exact ih (i + 1) (p - 2) h_5 (by omega) (by omega) f_9 ⟨_, f_8, fun j hj hp => (by unfold upd; by_cases z : j = p - 2 + 1; rw [if_pos z, z, show p - 2 + 1 = n - 2 * i - 2 + 1 by omega, u2]; rw [if_neg z]; by_cases z2 : j = p - 2; rw [if_pos z2, z2, show p - 2 = n - 2 * i - 2 by omega, u1]; rw [if_neg z2]; exact qp j hj (by omega))⟩ f_10 (fun a ha => (((o_5 a (by omega)).trans (o_4 a (by omega)))).trans (ho a ha))
  refine aw_sub (L' := [(0, .int (nI (4))), (1, .int (nI (0))), (2, .int (nI (n))), (3, .ref (nx)), (4, .ref (nx + 1)), (5, .int (nI (n))), (6, .int (nI (0)))]) [4, 5, 6, 3, 2, 1, 0] rfl ?_
  exact K (n + 1) 0 n h_2 (by omega) (by omega) k1 ⟨f0, k2, fun j hj hl => absurd hl (by omega)⟩ k3 oA
set_option maxHeartbeats 4000000 in
set_option maxRecDepth 20000 in
/-- way(5, m, n) -/
theorem c_X9_way5 (G : aG) {h : aH} {nx m n : Nat} (hn : 2 ≤ n ∧ n ≤ 16) (hO : isO (5 : Nat) (m : Nat) n = true) : aMet G mX9_way 2 3 34 [.int (nI (5)), .int (nI (m)), .int (nI (n))] h nx (pQ (fun r h1 n1 => r = some (.ref nx) ∧ n1 = nx + 3 ∧ WayAt h1 nx (layL 5 m n) ∧ aOff h h1 nx 3)) := by
  have hO2 := (of_decide_eq_true hO).2
  refine aMet_of rfl (Nat.le_of_ble_eq_true rfl) ?_
  show aw G mX9_way [] (aRoom 2 3 34) (aEnd G (pQ (fun r h1 n1 => r = some (.ref nx) ∧ n1 = nx + 3 ∧ WayAt h1 nx (layL 5 m n) ∧ aOff h h1 nx 3)) 3 34) 0 0 h nx 0 [(0, .int (nI (5))), (1, .int (nI (m))), (2, .int (nI (n)))] []
  refine aw_newV (ci := 7) (fs := [.null, .null]) rfl w_879 w_880 w_24 (by decide +kernel) (Nat.le_of_ble_eq_true rfl) (Nat.le_of_ble_eq_true rfl) dX9_way_0 (fun h_1 f_1 o_1 => ?_)
  refine aw_dup dX9_way_3 rfl ?_
  refine aw_iload_n dX9_way_4 rfl ?_
  refine aw_callIQ (As := [.int (nI (n))]) (rest := [.ref (nx)]) (c_X8_init G f_1 hn.2) kX8_init w_881 rfl rfl (Nat.le_of_ble_eq_true rfl) dX9_way_5 ⟨Nat.le_of_ble_eq_true rfl, Nat.le_of_ble_eq_true rfl⟩ ⟨Nat.le_of_ble_eq_true rfl, Nat.le_of_ble_eq_true rfl⟩ (fun v_1 h_2 n_1 q_1 z_1 => ?_)
  obtain ⟨rfl, rfl, X_1, o_2⟩ := q_1
  refine aw_nx (show _ = nx + 3 from rfl) ?_
  obtain ⟨f0, g0, k1, k2, k3, k4⟩ := X_1
  rw [idL_len] at k2 k3 k4
  have hf0 : ∀ i, i < n → f0 i = nI i := fun i hi => by rw [(k4 i hi).1, idL_at hi]; congr 1; omega
  have hg0 : ∀ i, i < n → g0 i = bI false := fun i hi => by rw [(k4 i hi).2, idL_at hi, decide_eq_false (by omega)]
  have oA : aOff h h_2 nx 3 := fun a ha => (o_2 a (by omega)).trans (o_1 a (by omega))
  refine aw_astore_n (L' := [(3, .ref (nx)), (0, .int (nI (5))), (1, .int (nI (m))), (2, .int (nI (n)))]) dX9_way_8 (by decide) rfl ?_
  refine aw_aload_n dX9_way_9 rfl ?_
  refine aw_getN 0 k1 rfl rfl (by decide) w_887 rfl dX9_way_10 ?_
  refine aw_astore (L' := [(4, .ref (nx + 1)), (3, .ref (nx)), (0, .int (nI (5))), (1, .int (nI (m))), (2, .int (nI (n)))]) dX9_way_13 (by decide) rfl ?_
  refine aw_iload_n dX9_way_15 rfl ?_
  have hx : (nI 5).toInt = 5 := by decide
  refine aw_tableIn (off := 256) (tgt := 272) dX9_way_16 (by rw [hx]; decide) (by rw [hx]; decide) (by rw [hx]; rfl) (by decide) ?_
  have hm : 2 ≤ m ∧ m ≤ 4 := by omega
  have hlen := (lay_cOk hO).1
  have hlen2 : (dls m n m).length = n := hlen
  refine aw_ic dX9_way_272 ic_0 ?_
  refine aw_istore (L' := [(5, .int (nI (0))), (4, .ref (nx + 1)), (3, .ref (nx)), (0, .int (nI (5))), (1, .int (nI (m))), (2, .int (nI (n)))]) dX9_way_273 (by decide) rfl ?_
  refine aw_ic dX9_way_275 ic_0 ?_
  refine aw_istore (L' := [(6, .int (nI (0))), (5, .int (nI (0))), (4, .ref (nx + 1)), (3, .ref (nx)), (0, .int (nI (5))), (1, .int (nI (m))), (2, .int (nI (n)))]) dX9_way_276 (by decide) rfl ?_
  have K : ∀ (d : Nat) (c p : Nat) (h1 : aH), m - c < d → (c ≤ m ∧ p = (dls m n c).length) → (h1 nx = some (.inr (7, [.ref (nx + 1), .ref (nx + 2)]))) → (∃ f : Nat → Int32, h1 (nx + 1) = some (.inl (0, n, .inl f)) ∧ fillA f (dls m n c)) → (h1 (nx + 2) = some (.inl (1, n, .inl g0))) → (aOff h h1 nx 3) → aw G mX9_way [] (aRoom 2 3 34) (aEnd G (pQ (fun r h1 n1 => r = some (.ref nx) ∧ n1 = nx + 3 ∧ WayAt h1 nx (layL 5 m n) ∧ aOff h h1 nx 3)) 3 34) 3 34 h1 (nx + 3) 278 [(0, .int (nI (5))), (1, .int (nI (m))), (2, .int (nI (n))), (3, .ref (nx)), (4, .ref (nx + 1)), (5, .int (nI (p))), (6, .int (nI (c)))] [] := by
    intro d
    induction d with
    | zero => intro c p h1 hMd; exact absurd hMd (Nat.not_lt_zero _)
    | succ d ih =>
      intro c p h1 hMd hi q1 qf q3 ho
      obtain ⟨f, q2, qp⟩ := qf
      obtain ⟨tl, htl⟩ := dls_pre (m := m) (n := n) (a := c) m hi.1
      have hlt := congrArg List.length htl
      rw [List.length_append] at hlt
      refine aw_iload dX9_way_278 rfl ?_
      refine aw_iload_n dX9_way_280 rfl ?_
      refine aw_icmp_geN (tgt := 328) (by omega) (by omega) dX9_way_281 (by decide) (fun c1 => ?_) (fun c1 => ?_)
      · skip
        have ec : c = m := by omega
        subst ec
        refine aw_aload_n dX9_way_328 rfl ?_
        exact aw_areturn dX9_way_329 rfl (Or.inl ⟨_, rfl⟩) (Or.inr ⟨_, rfl⟩) ⟨_, rfl, rfl, rfl, way_end hO (by decide) q1 q2 q3 (fun i hi => qp i (by omega)) hg0, ho⟩ (Nat.le_of_ble_eq_true rfl) (Nat.le_of_ble_eq_true rfl)
      · skip
        obtain ⟨tl2, htl2⟩ := dls_pre (m := m) (n := n) (a := c + 1) m (by omega)
        have hlt2 := congrArg List.length htl2
        rw [List.length_append] at hlt2
        refine aw_iload_n dX9_way_284 rfl ?_
        refine aw_ic dX9_way_285 ic_1 ?_
        refine aw_isubN (by omega) dX9_way_286 ?_
        refine aw_istore (L' := [(7, .int (nI (n - 1))), (0, .int (nI (5))), (1, .int (nI (m))), (2, .int (nI (n))), (3, .ref (nx)), (4, .ref (nx + 1)), (5, .int (nI (p))), (6, .int (nI (c)))]) dX9_way_287 (by decide) rfl ?_
        have ihO := ih
        have K2 : ∀ (d : Nat) (j p : Nat) (l2 : List Nat) (h1 : aH), j < d → (j ≤ n ∧ p = l2.length) → (l2 ++ dsc (fun i => decide (i % m = c)) 0 j = dls m n (c + 1)) → (h1 nx = some (.inr (7, [.ref (nx + 1), .ref (nx + 2)]))) → (∃ f : Nat → Int32, h1 (nx + 1) = some (.inl (0, n, .inl f)) ∧ fillA f l2) → (h1 (nx + 2) = some (.inl (1, n, .inl g0))) → (aOff h h1 nx 3) → aw G mX9_way [] (aRoom 2 3 34) (aEnd G (pQ (fun r h1 n1 => r = some (.ref nx) ∧ n1 = nx + 3 ∧ WayAt h1 nx (layL 5 m n) ∧ aOff h h1 nx 3)) 3 34) 3 34 h1 (nx + 3) 289 [(0, .int (nI (5))), (1, .int (nI (m))), (2, .int (nI (n))), (3, .ref (nx)), (4, .ref (nx + 1)), (5, .int (nI (p))), (6, .int (nI (c))), (7, .int (dn j))] [] := by
          intro d
          induction d with
          | zero => intro j p l2 h1 hMd; exact absurd hMd (Nat.not_lt_zero _)
          | succ d ih =>
            intro j p l2 h1 hMd hj hl2 q1 qf q3 ho
            obtain ⟨f, q2, qp⟩ := qf
            have hl3 := congrArg List.length hl2
            rw [List.length_append] at hl3
            cases j with
            | zero =>
              have hl4 : l2 = dls m n (c + 1) := by rw [← hl2]; exact (List.append_nil l2).symm
              refine aw_iload dX9_way_289 rfl ?_
              refine aw_if_lt (tgt := 322) dX9_way_291 (by decide) (fun c2 => ?_) (fun c2 => absurd c2 (fun q => q dn_0))
              refine aw_iincN (k := 1) (L' := [(6, .int (nI (c + 1))), (0, .int (nI (5))), (1, .int (nI (m))), (2, .int (nI (n))), (3, .ref (nx)), (4, .ref (nx + 1)), (5, .int (nI (p))), (7, .int (dn 0))]) dX9_way_322 (by decide) rfl (by decide) rfl ?_
              refine aw_goto (tgt := 278) dX9_way_325 (by decide) ?_
              refine aw_sub (L' := [(0, .int (nI (5))), (1, .int (nI (m))), (2, .int (nI (n))), (3, .ref (nx)), (4, .ref (nx + 1)), (5, .int (nI (p))), (6, .int (nI (c + 1)))]) [1, 2, 3, 4, 5, 6, 0] rfl ?_
              exact ihO (c + 1) p h1 (by omega) (by rw [← hl4]; omega) q1 ⟨_, q2, by rw [← hl4]; exact qp⟩ q3 ho
            | succ k =>
              refine aw_to ?_ (show ([(0, .int (nI (5))), (1, .int (nI (m))), (2, .int (nI (n))), (3, .ref (nx)), (4, .ref (nx + 1)), (5, .int (nI (p))), (6, .int (nI (c))), (7, .int (dn (k + 1)))] : aL) = [(0, .int (nI (5))), (1, .int (nI (m))), (2, .int (nI (n))), (3, .ref (nx)), (4, .ref (nx + 1)), (5, .int (nI (p))), (6, .int (nI (c))), (7, .int (nI (k)))] from rfl) rfl rfl
              refine aw_iload dX9_way_289 rfl ?_
              refine aw_if_ltN (tgt := 322) (by omega) dX9_way_291 (by decide) ?_
              refine aw_iload dX9_way_294 rfl ?_
              refine aw_iload_n dX9_way_296 rfl ?_
              refine aw_iremN (by omega) (by omega) (by omega) dX9_way_297 ?_
              refine aw_iload dX9_way_298 rfl ?_
              have hml := Nat.mod_lt k (show 0 < m by omega)
              refine aw_icmp_eqN (tgt := 306) (by omega) (by omega) dX9_way_300 (by decide) (fun c2 => ?_) (fun c2 => ?_)
              · skip
                simp only [dsc, c2, decide_true, if_true, List.length_append, List.length_cons, List.length_nil] at hl3
                refine aw_aload dX9_way_306 rfl ?_
                refine aw_iload dX9_way_308 rfl ?_
                refine aw_iload dX9_way_310 rfl ?_
                refine aw_iastoreV q2 (by omega) (by omega) dX9_way_312 (fun h_3 f_2 o_3 => ?_)
                have f_3 := (o_3 nx (by omega)).trans q1
                have f_4 := (o_3 (nx + 2) (by omega)).trans q3
                refine aw_iincN (k := 1) (L' := [(5, .int (nI (p + 1))), (0, .int (nI (5))), (1, .int (nI (m))), (2, .int (nI (n))), (3, .ref (nx)), (4, .ref (nx + 1)), (6, .int (nI (c))), (7, .int (nI (k)))]) dX9_way_313 (by decide) rfl (by decide) rfl ?_
                refine aw_iinc (L' := [(7, .int (dn k)), (5, .int (nI (p + 1))), (0, .int (nI (5))), (1, .int (nI (m))), (2, .int (nI (n))), (3, .ref (nx)), (4, .ref (nx + 1)), (6, .int (nI (c)))]) dX9_way_316 rfl (dn_pred k) (by decide) rfl ?_
                refine aw_goto (tgt := 289) dX9_way_319 (by decide) ?_
                refine aw_sub (L' := [(0, .int (nI (5))), (1, .int (nI (m))), (2, .int (nI (n))), (3, .ref (nx)), (4, .ref (nx + 1)), (5, .int (nI (p + 1))), (6, .int (nI (c))), (7, .int (dn k))]) [2, 3, 4, 5, 6, 1, 7, 0] rfl ?_
                exact ih k (p + 1) (l2 ++ [2 * k + 0]) h_3 (by omega) (by rw [List.length_append]; simp; omega) (by rw [← hl2]; simp [dsc, c2]) f_3 ⟨_, f_2, by rw [hj.2]; exact fillA_add qp (by omega)⟩ f_4 (fun a ha => ((o_3 a (by omega))).trans (ho a ha))
              · skip
                refine aw_goto (tgt := 316) dX9_way_303 (by decide) ?_
                refine aw_iinc (L' := [(7, .int (dn k)), (0, .int (nI (5))), (1, .int (nI (m))), (2, .int (nI (n))), (3, .ref (nx)), (4, .ref (nx + 1)), (5, .int (nI (p))), (6, .int (nI (c)))]) dX9_way_316 rfl (dn_pred k) (by decide) rfl ?_
                refine aw_goto (tgt := 289) dX9_way_319 (by decide) ?_
                refine aw_sub (L' := [(0, .int (nI (5))), (1, .int (nI (m))), (2, .int (nI (n))), (3, .ref (nx)), (4, .ref (nx + 1)), (5, .int (nI (p))), (6, .int (nI (c))), (7, .int (dn k))]) [1, 2, 3, 4, 5, 6, 7, 0] rfl ?_
                exact ih k p l2 h1 (by omega) (by omega) (by rw [← hl2]; simp [dsc, c2]) q1 ⟨_, q2, qp⟩ q3 ho
        refine aw_to ?_ (show ([(7, .int (nI (n - 1))), (0, .int (nI (5))), (1, .int (nI (m))), (2, .int (nI (n))), (3, .ref (nx)), (4, .ref (nx + 1)), (5, .int (nI (p))), (6, .int (nI (c)))] : aL) = [(7, .int (dn n)), (0, .int (nI (5))), (1, .int (nI (m))), (2, .int (nI (n))), (3, .ref (nx)), (4, .ref (nx + 1)), (5, .int (nI (p))), (6, .int (nI (c)))] from by obtain ⟨k, rfl⟩ : ∃ k, n = k + 1 := ⟨n - 1, by omega⟩; rfl) rfl rfl
        refine aw_sub (L' := [(0, .int (nI (5))), (1, .int (nI (m))), (2, .int (nI (n))), (3, .ref (nx)), (4, .ref (nx + 1)), (5, .int (nI (p))), (6, .int (nI (c))), (7, .int (dn n))]) [1, 2, 3, 4, 5, 6, 7, 0] rfl ?_
        exact K2 (n + 1) n p (dls m n c) h1 (by omega) ⟨Nat.le_refl _, hi.2⟩ rfl q1 ⟨f, q2, qp⟩ q3 ho
  refine aw_sub (L' := [(0, .int (nI (5))), (1, .int (nI (m))), (2, .int (nI (n))), (3, .ref (nx)), (4, .ref (nx + 1)), (5, .int (nI (0))), (6, .int (nI (0)))]) [4, 5, 6, 3, 2, 1, 0] rfl ?_
  exact K (m + 1) 0 0 h_2 (by omega) ⟨Nat.zero_le _, rfl⟩ k1 ⟨f0, k2, fillA_nil⟩ k3 oA
set_option maxHeartbeats 4000000 in
set_option maxRecDepth 20000 in
/-- way(6, m, n) -/
theorem c_X9_way6 (G : aG) {h : aH} {nx m n : Nat} (hn : 2 ≤ n ∧ n ≤ 16) (hO : isO (6 : Nat) (m : Nat) n = true) : aMet G mX9_way 2 3 34 [.int (nI (6)), .int (nI (m)), .int (nI (n))] h nx (pQ (fun r h1 n1 => r = some (.ref nx) ∧ n1 = nx + 3 ∧ WayAt h1 nx (layL 6 m n) ∧ aOff h h1 nx 3)) := by
  have hO2 := (of_decide_eq_true hO).2
  refine aMet_of rfl (Nat.le_of_ble_eq_true rfl) ?_
  show aw G mX9_way [] (aRoom 2 3 34) (aEnd G (pQ (fun r h1 n1 => r = some (.ref nx) ∧ n1 = nx + 3 ∧ WayAt h1 nx (layL 6 m n) ∧ aOff h h1 nx 3)) 3 34) 0 0 h nx 0 [(0, .int (nI (6))), (1, .int (nI (m))), (2, .int (nI (n)))] []
  refine aw_newV (ci := 7) (fs := [.null, .null]) rfl w_879 w_880 w_24 (by decide +kernel) (Nat.le_of_ble_eq_true rfl) (Nat.le_of_ble_eq_true rfl) dX9_way_0 (fun h_1 f_1 o_1 => ?_)
  refine aw_dup dX9_way_3 rfl ?_
  refine aw_iload_n dX9_way_4 rfl ?_
  refine aw_callIQ (As := [.int (nI (n))]) (rest := [.ref (nx)]) (c_X8_init G f_1 hn.2) kX8_init w_881 rfl rfl (Nat.le_of_ble_eq_true rfl) dX9_way_5 ⟨Nat.le_of_ble_eq_true rfl, Nat.le_of_ble_eq_true rfl⟩ ⟨Nat.le_of_ble_eq_true rfl, Nat.le_of_ble_eq_true rfl⟩ (fun v_1 h_2 n_1 q_1 z_1 => ?_)
  obtain ⟨rfl, rfl, X_1, o_2⟩ := q_1
  refine aw_nx (show _ = nx + 3 from rfl) ?_
  obtain ⟨f0, g0, k1, k2, k3, k4⟩ := X_1
  rw [idL_len] at k2 k3 k4
  have hf0 : ∀ i, i < n → f0 i = nI i := fun i hi => by rw [(k4 i hi).1, idL_at hi]; congr 1; omega
  have hg0 : ∀ i, i < n → g0 i = bI false := fun i hi => by rw [(k4 i hi).2, idL_at hi, decide_eq_false (by omega)]
  have oA : aOff h h_2 nx 3 := fun a ha => (o_2 a (by omega)).trans (o_1 a (by omega))
  refine aw_astore_n (L' := [(3, .ref (nx)), (0, .int (nI (6))), (1, .int (nI (m))), (2, .int (nI (n)))]) dX9_way_8 (by decide) rfl ?_
  refine aw_aload_n dX9_way_9 rfl ?_
  refine aw_getN 0 k1 rfl rfl (by decide) w_887 rfl dX9_way_10 ?_
  refine aw_astore (L' := [(4, .ref (nx + 1)), (3, .ref (nx)), (0, .int (nI (6))), (1, .int (nI (m))), (2, .int (nI (n)))]) dX9_way_13 (by decide) rfl ?_
  refine aw_iload_n dX9_way_15 rfl ?_
  have hx : (nI 6).toInt = 6 := by decide
  refine aw_tableIn (off := 314) (tgt := 330) dX9_way_16 (by rw [hx]; decide) (by rw [hx]; decide) (by rw [hx]; rfl) (by decide) ?_
  have hm : m ≤ n := by omega
  have hlen := (lay_cOk hO).1
  refine aw_ic dX9_way_330 ic_0 ?_
  refine aw_istore (L' := [(5, .int (nI (0))), (4, .ref (nx + 1)), (3, .ref (nx)), (0, .int (nI (6))), (1, .int (nI (m))), (2, .int (nI (n)))]) dX9_way_331 (by decide) rfl ?_
  have K : ∀ (d : Nat) (i : Nat) (h1 : aH), m - i < d → (i ≤ m) → (h1 nx = some (.inr (7, [.ref (nx + 1), .ref (nx + 2)]))) → (∃ f : Nat → Int32, h1 (nx + 1) = some (.inl (0, n, .inl f)) ∧ ∀ j, j < n → f j = nI (if j < i then m - 1 - j else j)) → (∃ g : Nat → Int32, h1 (nx + 2) = some (.inl (1, n, .inl g)) ∧ ∀ j, j < n → g j = bI (decide (j < i) && false)) → (aOff h h1 nx 3) → aw G mX9_way [] (aRoom 2 3 34) (aEnd G (pQ (fun r h1 n1 => r = some (.ref nx) ∧ n1 = nx + 3 ∧ WayAt h1 nx (layL 6 m n) ∧ aOff h h1 nx 3)) 3 34) 3 34 h1 (nx + 3) 333 [(0, .int (nI (6))), (1, .int (nI (m))), (2, .int (nI (n))), (3, .ref (nx)), (4, .ref (nx + 1)), (5, .int (nI (i)))] [] := by
    intro d
    induction d with
    | zero => intro i h1 hMd; exact absurd hMd (Nat.not_lt_zero _)
    | succ d ih =>
      intro i h1 hMd hi q1 qf qg ho
      obtain ⟨g, q3, qq⟩ := qg
      obtain ⟨f, q2, qp⟩ := qf
      refine aw_iload dX9_way_333 rfl ?_
      refine aw_iload_n dX9_way_335 rfl ?_
      refine aw_icmp_geN (tgt := 374) (by omega) (by omega) dX9_way_336 (by decide) (fun c1 => ?_) (fun c1 => ?_)
      · skip
        have ei : i = m := by omega
        subst ei
        refine aw_aload_n dX9_way_374 rfl ?_
        exact aw_areturn dX9_way_375 rfl (Or.inl ⟨_, rfl⟩) (Or.inr ⟨_, rfl⟩) ⟨_, rfl, rfl, rfl, way_end hO (by decide) q1 q2 q3 (fun j hj => by rw [qp j hj, wy_6 n (by omega) i (by omega) hO j hj]) (fun j hj => by rw [qq j hj, Bool.and_false]), ho⟩ (Nat.le_of_ble_eq_true rfl) (Nat.le_of_ble_eq_true rfl)
      · skip
        refine aw_aload dX9_way_339 rfl ?_
        refine aw_iload dX9_way_341 rfl ?_
        refine aw_iload_n dX9_way_343 rfl ?_
        refine aw_ic dX9_way_344 ic_1 ?_
        refine aw_isubN (by omega) dX9_way_345 ?_
        refine aw_iload dX9_way_346 rfl ?_
        refine aw_isubN (by omega) dX9_way_348 ?_
        refine aw_iastoreV q2 (by omega) (by omega) dX9_way_349 (fun h_3 f_2 o_3 => ?_)
        have f_3 := (o_3 nx (by omega)).trans q1
        have f_4 := (o_3 (nx + 2) (by omega)).trans q3
        refine aw_aload_n dX9_way_350 rfl ?_
        refine aw_getN 1 f_3 rfl rfl (by decide) w_890 rfl dX9_way_351 ?_
        refine aw_iload dX9_way_354 rfl ?_
        refine aw_iload_n dX9_way_356 rfl ?_
        refine aw_bp (v := 7) dX9_way_357 (by decide) ?_
        refine aw_icmp_neN (tgt := 366) (by omega) (by omega) dX9_way_359 (by decide) (fun c2 => ?_) (fun c2 => absurd c2 (by omega))
        refine aw_ic dX9_way_366 ic_0 ?_
        refine aw_top (show (nI (0)) = (bI (false)) from rfl) ?_
        refine aw_zastoreV f_4 (by omega) (by omega) (bI_nar _) dX9_way_367 (fun h_4 f_5 o_4 => ?_)
        have f_6 := (o_4 (nx + 1) (by omega)).trans f_2
        have f_7 := (o_4 nx (by omega)).trans f_3
        refine aw_iincN (k := 1) (L' := [(5, .int (nI (i + 1))), (0, .int (nI (6))), (1, .int (nI (m))), (2, .int (nI (n))), (3, .ref (nx)), (4, .ref (nx + 1))]) dX9_way_368 (by decide) rfl (by decide) rfl ?_
        refine aw_goto (tgt := 333) dX9_way_371 (by decide) ?_
        refine aw_sub (L' := [(0, .int (nI (6))), (1, .int (nI (m))), (2, .int (nI (n))), (3, .ref (nx)), (4, .ref (nx + 1)), (5, .int (nI (i + 1)))]) [1, 2, 3, 4, 5, 0] rfl ?_
        exact ih (i + 1) h_4 (by omega) (by omega) f_7 ⟨_, f_6, fun j hj => (by unfold upd; by_cases z : j = i; rw [if_pos z, z, if_pos (by omega)]; rw [if_neg z, qp j hj]; by_cases z2 : j < i; rw [if_pos z2, if_pos (by omega)]; rw [if_neg z2, if_neg (by omega)])⟩ ⟨_, f_5, fun j hj => (by unfold upd; by_cases z : j = i; rw [if_pos z, z, decide_eq_true (by omega)]; rfl; rw [if_neg z, qq j hj]; by_cases z2 : j < i; rw [decide_eq_true z2, decide_eq_true (by omega)]; rw [decide_eq_false z2, decide_eq_false (by omega)])⟩ (fun a ha => (((o_4 a (by omega)).trans (o_3 a (by omega)))).trans (ho a ha))
  refine aw_sub (L' := [(0, .int (nI (6))), (1, .int (nI (m))), (2, .int (nI (n))), (3, .ref (nx)), (4, .ref (nx + 1)), (5, .int (nI (0)))]) [3, 4, 5, 2, 1, 0] rfl ?_
  exact K (m + 1) 0 h_2 (by omega) (Nat.zero_le _) k1 ⟨f0, k2, fun j hj => by rw [hf0 j hj, if_neg (Nat.not_lt_zero _)]⟩ ⟨g0, k3, fun j hj => by rw [hg0 j hj, decide_eq_false (Nat.not_lt_zero _)]; rfl⟩ oA
set_option maxHeartbeats 4000000 in
set_option maxRecDepth 20000 in
/-- way(7, m, n) -/
theorem c_X9_way7 (G : aG) {h : aH} {nx m n : Nat} (hn : 2 ≤ n ∧ n ≤ 16) (hO : isO (7 : Nat) (m : Nat) n = true) : aMet G mX9_way 2 3 34 [.int (nI (7)), .int (nI (m)), .int (nI (n))] h nx (pQ (fun r h1 n1 => r = some (.ref nx) ∧ n1 = nx + 3 ∧ WayAt h1 nx (layL 7 m n) ∧ aOff h h1 nx 3)) := by
  have hO2 := (of_decide_eq_true hO).2
  refine aMet_of rfl (Nat.le_of_ble_eq_true rfl) ?_
  show aw G mX9_way [] (aRoom 2 3 34) (aEnd G (pQ (fun r h1 n1 => r = some (.ref nx) ∧ n1 = nx + 3 ∧ WayAt h1 nx (layL 7 m n) ∧ aOff h h1 nx 3)) 3 34) 0 0 h nx 0 [(0, .int (nI (7))), (1, .int (nI (m))), (2, .int (nI (n)))] []
  refine aw_newV (ci := 7) (fs := [.null, .null]) rfl w_879 w_880 w_24 (by decide +kernel) (Nat.le_of_ble_eq_true rfl) (Nat.le_of_ble_eq_true rfl) dX9_way_0 (fun h_1 f_1 o_1 => ?_)
  refine aw_dup dX9_way_3 rfl ?_
  refine aw_iload_n dX9_way_4 rfl ?_
  refine aw_callIQ (As := [.int (nI (n))]) (rest := [.ref (nx)]) (c_X8_init G f_1 hn.2) kX8_init w_881 rfl rfl (Nat.le_of_ble_eq_true rfl) dX9_way_5 ⟨Nat.le_of_ble_eq_true rfl, Nat.le_of_ble_eq_true rfl⟩ ⟨Nat.le_of_ble_eq_true rfl, Nat.le_of_ble_eq_true rfl⟩ (fun v_1 h_2 n_1 q_1 z_1 => ?_)
  obtain ⟨rfl, rfl, X_1, o_2⟩ := q_1
  refine aw_nx (show _ = nx + 3 from rfl) ?_
  obtain ⟨f0, g0, k1, k2, k3, k4⟩ := X_1
  rw [idL_len] at k2 k3 k4
  have hf0 : ∀ i, i < n → f0 i = nI i := fun i hi => by rw [(k4 i hi).1, idL_at hi]; congr 1; omega
  have hg0 : ∀ i, i < n → g0 i = bI false := fun i hi => by rw [(k4 i hi).2, idL_at hi, decide_eq_false (by omega)]
  have oA : aOff h h_2 nx 3 := fun a ha => (o_2 a (by omega)).trans (o_1 a (by omega))
  refine aw_astore_n (L' := [(3, .ref (nx)), (0, .int (nI (7))), (1, .int (nI (m))), (2, .int (nI (n)))]) dX9_way_8 (by decide) rfl ?_
  refine aw_aload_n dX9_way_9 rfl ?_
  refine aw_getN 0 k1 rfl rfl (by decide) w_887 rfl dX9_way_10 ?_
  refine aw_astore (L' := [(4, .ref (nx + 1)), (3, .ref (nx)), (0, .int (nI (7))), (1, .int (nI (m))), (2, .int (nI (n)))]) dX9_way_13 (by decide) rfl ?_
  refine aw_iload_n dX9_way_15 rfl ?_
  have hx : (nI 7).toInt = 7 := by decide
  refine aw_tableIn (off := 314) (tgt := 330) dX9_way_16 (by rw [hx]; decide) (by rw [hx]; decide) (by rw [hx]; rfl) (by decide) ?_
  have hm : m ≤ n := by omega
  have hlen := (lay_cOk hO).1
  refine aw_ic dX9_way_330 ic_0 ?_
  refine aw_istore (L' := [(5, .int (nI (0))), (4, .ref (nx + 1)), (3, .ref (nx)), (0, .int (nI (7))), (1, .int (nI (m))), (2, .int (nI (n)))]) dX9_way_331 (by decide) rfl ?_
  have K : ∀ (d : Nat) (i : Nat) (h1 : aH), m - i < d → (i ≤ m) → (h1 nx = some (.inr (7, [.ref (nx + 1), .ref (nx + 2)]))) → (∃ f : Nat → Int32, h1 (nx + 1) = some (.inl (0, n, .inl f)) ∧ ∀ j, j < n → f j = nI (if j < i then m - 1 - j else j)) → (∃ g : Nat → Int32, h1 (nx + 2) = some (.inl (1, n, .inl g)) ∧ ∀ j, j < n → g j = bI (decide (j < i) && true)) → (aOff h h1 nx 3) → aw G mX9_way [] (aRoom 2 3 34) (aEnd G (pQ (fun r h1 n1 => r = some (.ref nx) ∧ n1 = nx + 3 ∧ WayAt h1 nx (layL 7 m n) ∧ aOff h h1 nx 3)) 3 34) 3 34 h1 (nx + 3) 333 [(0, .int (nI (7))), (1, .int (nI (m))), (2, .int (nI (n))), (3, .ref (nx)), (4, .ref (nx + 1)), (5, .int (nI (i)))] [] := by
    intro d
    induction d with
    | zero => intro i h1 hMd; exact absurd hMd (Nat.not_lt_zero _)
    | succ d ih =>
      intro i h1 hMd hi q1 qf qg ho
      obtain ⟨g, q3, qq⟩ := qg
      obtain ⟨f, q2, qp⟩ := qf
      refine aw_iload dX9_way_333 rfl ?_
      refine aw_iload_n dX9_way_335 rfl ?_
      refine aw_icmp_geN (tgt := 374) (by omega) (by omega) dX9_way_336 (by decide) (fun c1 => ?_) (fun c1 => ?_)
      · skip
        have ei : i = m := by omega
        subst ei
        refine aw_aload_n dX9_way_374 rfl ?_
        exact aw_areturn dX9_way_375 rfl (Or.inl ⟨_, rfl⟩) (Or.inr ⟨_, rfl⟩) ⟨_, rfl, rfl, rfl, ⟨f, g, q1, by rw [hlen]; exact q2, by rw [hlen]; exact q3, fun j hj => (by rw [hlen] at hj; obtain ⟨v1, v2⟩ := wy_7 n (by omega) i (by omega) hO j hj; exact ⟨by rw [qp j hj, v1], by rw [qq j hj, Bool.and_true, v2]⟩)⟩, ho⟩ (Nat.le_of_ble_eq_true rfl) (Nat.le_of_ble_eq_true rfl)
      · skip
        refine aw_aload dX9_way_339 rfl ?_
        refine aw_iload dX9_way_341 rfl ?_
        refine aw_iload_n dX9_way_343 rfl ?_
        refine aw_ic dX9_way_344 ic_1 ?_
        refine aw_isubN (by omega) dX9_way_345 ?_
        refine aw_iload dX9_way_346 rfl ?_
        refine aw_isubN (by omega) dX9_way_348 ?_
        refine aw_iastoreV q2 (by omega) (by omega) dX9_way_349 (fun h_3 f_2 o_3 => ?_)
        have f_3 := (o_3 nx (by omega)).trans q1
        have f_4 := (o_3 (nx + 2) (by omega)).trans q3
        refine aw_aload_n dX9_way_350 rfl ?_
        refine aw_getN 1 f_3 rfl rfl (by decide) w_890 rfl dX9_way_351 ?_
        refine aw_iload dX9_way_354 rfl ?_
        refine aw_iload_n dX9_way_356 rfl ?_
        refine aw_bp (v := 7) dX9_way_357 (by decide) ?_
        refine aw_icmp_neN (tgt := 366) (by omega) (by omega) dX9_way_359 (by decide) (fun c2 => absurd c2 (by omega)) (fun c2 => ?_)
        refine aw_ic dX9_way_362 ic_1 ?_
        refine aw_goto (tgt := 367) dX9_way_363 (by decide) ?_
        refine aw_top (show (nI (1)) = (bI (true)) from rfl) ?_
        refine aw_zastoreV f_4 (by omega) (by omega) (bI_nar _) dX9_way_367 (fun h_4 f_5 o_4 => ?_)
        have f_6 := (o_4 (nx + 1) (by omega)).trans f_2
        have f_7 := (o_4 nx (by omega)).trans f_3
        refine aw_iincN (k := 1) (L' := [(5, .int (nI (i + 1))), (0, .int (nI (7))), (1, .int (nI (m))), (2, .int (nI (n))), (3, .ref (nx)), (4, .ref (nx + 1))]) dX9_way_368 (by decide) rfl (by decide) rfl ?_
        refine aw_goto (tgt := 333) dX9_way_371 (by decide) ?_
        refine aw_sub (L' := [(0, .int (nI (7))), (1, .int (nI (m))), (2, .int (nI (n))), (3, .ref (nx)), (4, .ref (nx + 1)), (5, .int (nI (i + 1)))]) [1, 2, 3, 4, 5, 0] rfl ?_
        exact ih (i + 1) h_4 (by omega) (by omega) f_7 ⟨_, f_6, fun j hj => (by unfold upd; by_cases z : j = i; rw [if_pos z, z, if_pos (by omega)]; rw [if_neg z, qp j hj]; by_cases z2 : j < i; rw [if_pos z2, if_pos (by omega)]; rw [if_neg z2, if_neg (by omega)])⟩ ⟨_, f_5, fun j hj => (by unfold upd; by_cases z : j = i; rw [if_pos z, z, decide_eq_true (by omega)]; rfl; rw [if_neg z, qq j hj]; by_cases z2 : j < i; rw [decide_eq_true z2, decide_eq_true (by omega)]; rw [decide_eq_false z2, decide_eq_false (by omega)])⟩ (fun a ha => (((o_4 a (by omega)).trans (o_3 a (by omega)))).trans (ho a ha))
  refine aw_sub (L' := [(0, .int (nI (7))), (1, .int (nI (m))), (2, .int (nI (n))), (3, .ref (nx)), (4, .ref (nx + 1)), (5, .int (nI (0)))]) [3, 4, 5, 2, 1, 0] rfl ?_
  exact K (m + 1) 0 h_2 (by omega) (Nat.zero_le _) k1 ⟨f0, k2, fun j hj => by rw [hf0 j hj, if_neg (Nat.not_lt_zero _)]⟩ ⟨g0, k3, fun j hj => by rw [hg0 j hj, decide_eq_false (Nat.not_lt_zero _)]; rfl⟩ oA
set_option maxHeartbeats 4000000 in
set_option maxRecDepth 20000 in
/-- way(8, m, n) -/
theorem c_X9_way8 (G : aG) {h : aH} {nx m n : Nat} (hn : 2 ≤ n ∧ n ≤ 16) (hO : isO (8 : Nat) (m : Nat) n = true) : aMet G mX9_way 2 3 34 [.int (nI (8)), .int (nI (m)), .int (nI (n))] h nx (pQ (fun r h1 n1 => r = some (.ref nx) ∧ n1 = nx + 3 ∧ WayAt h1 nx (layL 8 m n) ∧ aOff h h1 nx 3)) := by
  have hO2 := (of_decide_eq_true hO).2
  refine aMet_of rfl (Nat.le_of_ble_eq_true rfl) ?_
  show aw G mX9_way [] (aRoom 2 3 34) (aEnd G (pQ (fun r h1 n1 => r = some (.ref nx) ∧ n1 = nx + 3 ∧ WayAt h1 nx (layL 8 m n) ∧ aOff h h1 nx 3)) 3 34) 0 0 h nx 0 [(0, .int (nI (8))), (1, .int (nI (m))), (2, .int (nI (n)))] []
  refine aw_newV (ci := 7) (fs := [.null, .null]) rfl w_879 w_880 w_24 (by decide +kernel) (Nat.le_of_ble_eq_true rfl) (Nat.le_of_ble_eq_true rfl) dX9_way_0 (fun h_1 f_1 o_1 => ?_)
  refine aw_dup dX9_way_3 rfl ?_
  refine aw_iload_n dX9_way_4 rfl ?_
  refine aw_callIQ (As := [.int (nI (n))]) (rest := [.ref (nx)]) (c_X8_init G f_1 hn.2) kX8_init w_881 rfl rfl (Nat.le_of_ble_eq_true rfl) dX9_way_5 ⟨Nat.le_of_ble_eq_true rfl, Nat.le_of_ble_eq_true rfl⟩ ⟨Nat.le_of_ble_eq_true rfl, Nat.le_of_ble_eq_true rfl⟩ (fun v_1 h_2 n_1 q_1 z_1 => ?_)
  obtain ⟨rfl, rfl, X_1, o_2⟩ := q_1
  refine aw_nx (show _ = nx + 3 from rfl) ?_
  obtain ⟨f0, g0, k1, k2, k3, k4⟩ := X_1
  rw [idL_len] at k2 k3 k4
  have hf0 : ∀ i, i < n → f0 i = nI i := fun i hi => by rw [(k4 i hi).1, idL_at hi]; congr 1; omega
  have hg0 : ∀ i, i < n → g0 i = bI false := fun i hi => by rw [(k4 i hi).2, idL_at hi, decide_eq_false (by omega)]
  have oA : aOff h h_2 nx 3 := fun a ha => (o_2 a (by omega)).trans (o_1 a (by omega))
  refine aw_astore_n (L' := [(3, .ref (nx)), (0, .int (nI (8))), (1, .int (nI (m))), (2, .int (nI (n)))]) dX9_way_8 (by decide) rfl ?_
  refine aw_aload_n dX9_way_9 rfl ?_
  refine aw_getN 0 k1 rfl rfl (by decide) w_887 rfl dX9_way_10 ?_
  refine aw_astore (L' := [(4, .ref (nx + 1)), (3, .ref (nx)), (0, .int (nI (8))), (1, .int (nI (m))), (2, .int (nI (n)))]) dX9_way_13 (by decide) rfl ?_
  refine aw_iload_n dX9_way_15 rfl ?_
  have hx : (nI 8).toInt = 8 := by decide
  refine aw_tableIn (off := 360) (tgt := 376) dX9_way_16 (by rw [hx]; decide) (by rw [hx]; decide) (by rw [hx]; rfl) (by decide) ?_
  have hp1 : 1 ≤ 2 ^ n ∧ 2 ^ n ≤ 2 ^ 16 := ⟨Nat.one_le_two_pow, Nat.pow_le_pow_right (by decide) hn.2⟩
  have hm : m < 2 ^ n := by omega
  have hm2 : m < 2 ^ 16 := by omega
  have ho16 := ones_16 hn.2 hm
  have hon : ones m n ≤ n := ct_le (fun j => m.testBit j) n
  refine aw_ic dX9_way_376 ic_0 ?_
  refine aw_istore (L' := [(5, .int (nI (0))), (4, .ref (nx + 1)), (3, .ref (nx)), (0, .int (nI (8))), (1, .int (nI (m))), (2, .int (nI (n)))]) dX9_way_377 (by decide) rfl ?_
  refine aw_iload_n dX9_way_379 rfl ?_
  refine aw_iload_n dX9_way_380 rfl ?_
  refine aw_callSR (As := [.int (nI (m))]) (rest := [.int (nI (n))]) (c_bitCount G hm2) kJ6_bitCount_0f7a4 w_896 rfl rfl (Nat.le_of_ble_eq_true rfl) dX9_way_381 ⟨Nat.le_of_ble_eq_true rfl, Nat.le_of_ble_eq_true rfl⟩ ⟨Nat.le_of_ble_eq_true rfl, Nat.le_of_ble_eq_true rfl⟩ ?_
  rw [ho16]
  refine aw_isubN (by omega) dX9_way_384 ?_
  refine aw_istore (L' := [(6, .int (nI (n - (ones m n)))), (5, .int (nI (0))), (4, .ref (nx + 1)), (3, .ref (nx)), (0, .int (nI (8))), (1, .int (nI (m))), (2, .int (nI (n)))]) dX9_way_385 (by decide) rfl ?_
  refine aw_ic dX9_way_387 ic_0 ?_
  refine aw_istore (L' := [(7, .int (nI (0))), (6, .int (nI (n - (ones m n)))), (5, .int (nI (0))), (4, .ref (nx + 1)), (3, .ref (nx)), (0, .int (nI (8))), (1, .int (nI (m))), (2, .int (nI (n)))]) dX9_way_388 (by decide) rfl ?_
  have K : ∀ (d : Nat) (i c e : Nat) (h1 : aH), n - i < d → (i ≤ n ∧ c = i - ones m i ∧ e = n - ones m n + ones m i) → (h1 nx = some (.inr (7, [.ref (nx + 1), .ref (nx + 2)]))) → (∃ f : Nat → Int32, h1 (nx + 1) = some (.inl (0, n, .inl f)) ∧ fillA f (rif m n i)) → (h1 (nx + 2) = some (.inl (1, n, .inl g0))) → (aOff h h1 nx 3) → aw G mX9_way [] (aRoom 2 3 34) (aEnd G (pQ (fun r h1 n1 => r = some (.ref nx) ∧ n1 = nx + 3 ∧ WayAt h1 nx (layL 8 m n) ∧ aOff h h1 nx 3)) 3 34) 3 34 h1 (nx + 3) 390 [(0, .int (nI (8))), (1, .int (nI (m))), (2, .int (nI (n))), (3, .ref (nx)), (4, .ref (nx + 1)), (5, .int (nI (c))), (6, .int (nI (e))), (7, .int (nI (i)))] [] := by
    intro d
    induction d with
    | zero => intro i c e h1 hMd; exact absurd hMd (Nat.not_lt_zero _)
    | succ d ih =>
      intro i c e h1 hMd hi q1 qf q3 ho
      obtain ⟨f, q2, qp⟩ := qf
      have hoi : ones m i ≤ i := ct_le (fun j => m.testBit j) i
      have hll := (rif_ok (m := m) i hi.1).1
      refine aw_iload dX9_way_390 rfl ?_
      refine aw_iload_n dX9_way_392 rfl ?_
      refine aw_icmp_geN (tgt := 450) (by omega) (by omega) dX9_way_393 (by decide) (fun c1 => ?_) (fun c1 => ?_)
      · skip
        have ei : i = n := by omega
        subst ei
        refine aw_aload_n dX9_way_450 rfl ?_
        exact aw_areturn dX9_way_451 rfl (Or.inl ⟨_, rfl⟩) (Or.inr ⟨_, rfl⟩) ⟨_, rfl, rfl, rfl, way_end hO (by decide) q1 q2 q3 (fun j hj => qp j (by omega)) hg0, ho⟩ (Nat.le_of_ble_eq_true rfl) (Nat.le_of_ble_eq_true rfl)
      · skip
        refine aw_iload_n dX9_way_396 rfl ?_
        refine aw_iload dX9_way_397 rfl ?_
        refine aw_ishr dX9_way_399 ?_
        refine aw_top (n_shr (by omega) i (by omega)) ?_
        refine aw_ic dX9_way_400 ic_1 ?_
        refine aw_iand dX9_way_401 ?_
        refine aw_top (show ((nI (m / 2 ^ i)) &&& (nI (1))) = (nI (m / 2 ^ i % 2)) from n_odd (Nat.lt_of_le_of_lt (Nat.div_le_self _ _) (by omega))) ?_
        have htb := tb_div m i
        have hml := Nat.mod_lt (m / 2 ^ i) (show 0 < 2 by decide)
        refine aw_ic dX9_way_402 ic_1 ?_
        refine aw_icmp_neN (tgt := 410) (by omega) (by omega) dX9_way_403 (by decide) (fun c2 => ?_) (fun c2 => ?_)
        · skip
          have hb : m.testBit i = false := by rw [htb]; simp; omega
          have hs : ones m (i + 1) = ones m i := ct_f hb
          refine aw_ic dX9_way_410 ic_0 ?_
          refine aw_istore (L' := [(8, .int (nI (0))), (0, .int (nI (8))), (1, .int (nI (m))), (2, .int (nI (n))), (3, .ref (nx)), (4, .ref (nx + 1)), (5, .int (nI (c))), (6, .int (nI (e))), (7, .int (nI (i)))]) dX9_way_411 (by decide) rfl ?_
          refine aw_aload dX9_way_413 rfl ?_
          refine aw_iload dX9_way_415 rfl ?_
          refine aw_iload dX9_way_417 rfl ?_
          refine aw_if_eqN (tgt := 427) (by omega) dX9_way_419 (by decide) (fun c3 => ?_) (fun c3 => absurd c3 (by omega))
          refine aw_iload dX9_way_427 rfl ?_
          refine aw_iastoreV q2 (by omega) (by omega) dX9_way_429 (fun h_3 f_2 o_3 => ?_)
          have f_3 := (o_3 nx (by omega)).trans q1
          have f_4 := (o_3 (nx + 2) (by omega)).trans q3
          refine aw_iload dX9_way_430 rfl ?_
          refine aw_if_eqN (tgt := 441) (by omega) dX9_way_432 (by decide) (fun c4 => ?_) (fun c4 => absurd c4 (by omega))
          refine aw_iincN (k := 1) (L' := [(5, .int (nI (c + 1))), (8, .int (nI (0))), (0, .int (nI (8))), (1, .int (nI (m))), (2, .int (nI (n))), (3, .ref (nx)), (4, .ref (nx + 1)), (6, .int (nI (e))), (7, .int (nI (i)))]) dX9_way_441 (by decide) rfl (by decide) rfl ?_
          refine aw_iincN (k := 1) (L' := [(7, .int (nI (i + 1))), (5, .int (nI (c + 1))), (8, .int (nI (0))), (0, .int (nI (8))), (1, .int (nI (m))), (2, .int (nI (n))), (3, .ref (nx)), (4, .ref (nx + 1)), (6, .int (nI (e)))]) dX9_way_444 (by decide) rfl (by decide) rfl ?_
          refine aw_goto (tgt := 390) dX9_way_447 (by decide) ?_
          refine aw_sub (L' := [(0, .int (nI (8))), (1, .int (nI (m))), (2, .int (nI (n))), (3, .ref (nx)), (4, .ref (nx + 1)), (5, .int (nI (c + 1))), (6, .int (nI (e))), (7, .int (nI (i + 1)))]) [3, 4, 5, 6, 7, 1, 8, 0] rfl ?_
          exact ih (i + 1) (c + 1) e h_3 (by omega) (by omega) f_3 ⟨_, f_2, by rw [show rif m n (i + 1) = rif m n i ++ [2 * (i - ones m i)] by simp [rif, hb]]; have hq := fillA_add (x := c) (c := 2 * (i - ones m i)) qp (by omega); rw [hll] at hq; exact hq⟩ f_4 (fun a ha => ((o_3 a (by omega))).trans (ho a ha))
        · skip
          have hb : m.testBit i = true := by rw [htb]; simp; omega
          have hs : ones m (i + 1) = ones m i + 1 := ct_t hb
          refine aw_ic dX9_way_406 ic_1 ?_
          refine aw_goto (tgt := 411) dX9_way_407 (by decide) ?_
          refine aw_istore (L' := [(8, .int (nI (1))), (0, .int (nI (8))), (1, .int (nI (m))), (2, .int (nI (n))), (3, .ref (nx)), (4, .ref (nx + 1)), (5, .int (nI (c))), (6, .int (nI (e))), (7, .int (nI (i)))]) dX9_way_411 (by decide) rfl ?_
          refine aw_aload dX9_way_413 rfl ?_
          refine aw_iload dX9_way_415 rfl ?_
          refine aw_iload dX9_way_417 rfl ?_
          refine aw_if_eqN (tgt := 427) (by omega) dX9_way_419 (by decide) (fun c3 => absurd c3 (by omega)) (fun c3 => ?_)
          refine aw_iload dX9_way_422 rfl ?_
          refine aw_goto (tgt := 429) dX9_way_424 (by decide) ?_
          refine aw_iastoreV q2 (by omega) (by omega) dX9_way_429 (fun h_4 f_5 o_4 => ?_)
          have f_6 := (o_4 nx (by omega)).trans q1
          have f_7 := (o_4 (nx + 2) (by omega)).trans q3
          refine aw_iload dX9_way_430 rfl ?_
          refine aw_if_eqN (tgt := 441) (by omega) dX9_way_432 (by decide) (fun c4 => absurd c4 (by omega)) (fun c4 => ?_)
          refine aw_iincN (k := 1) (L' := [(6, .int (nI (e + 1))), (8, .int (nI (1))), (0, .int (nI (8))), (1, .int (nI (m))), (2, .int (nI (n))), (3, .ref (nx)), (4, .ref (nx + 1)), (5, .int (nI (c))), (7, .int (nI (i)))]) dX9_way_435 (by decide) rfl (by decide) rfl ?_
          refine aw_goto (tgt := 444) dX9_way_438 (by decide) ?_
          refine aw_iincN (k := 1) (L' := [(7, .int (nI (i + 1))), (6, .int (nI (e + 1))), (8, .int (nI (1))), (0, .int (nI (8))), (1, .int (nI (m))), (2, .int (nI (n))), (3, .ref (nx)), (4, .ref (nx + 1)), (5, .int (nI (c)))]) dX9_way_444 (by decide) rfl (by decide) rfl ?_
          refine aw_goto (tgt := 390) dX9_way_447 (by decide) ?_
          refine aw_sub (L' := [(0, .int (nI (8))), (1, .int (nI (m))), (2, .int (nI (n))), (3, .ref (nx)), (4, .ref (nx + 1)), (5, .int (nI (c))), (6, .int (nI (e + 1))), (7, .int (nI (i + 1)))]) [3, 4, 5, 6, 7, 8, 1, 0] rfl ?_
          exact ih (i + 1) c (e + 1) h_4 (by omega) (by omega) f_6 ⟨_, f_5, by rw [show rif m n (i + 1) = rif m n i ++ [2 * (n - ones m n + ones m i)] by simp [rif, hb]]; have hq := fillA_add (x := e) (c := 2 * (n - ones m n + ones m i)) qp (by omega); rw [hll] at hq; exact hq⟩ f_7 (fun a ha => ((o_4 a (by omega))).trans (ho a ha))
  have e0 : ones m 0 = 0 := rfl
  refine aw_sub (L' := [(0, .int (nI (8))), (1, .int (nI (m))), (2, .int (nI (n))), (3, .ref (nx)), (4, .ref (nx + 1)), (5, .int (nI (0))), (6, .int (nI (n - (ones m n)))), (7, .int (nI (0)))]) [5, 6, 7, 4, 3, 2, 1, 0] rfl ?_
  exact K (n + 1) 0 0 (n - ones m n) h_2 (by omega) ⟨Nat.zero_le _, by omega, by omega⟩ k1 ⟨f0, k2, fillA_nil⟩ k3 oA
set_option maxHeartbeats 4000000 in
set_option maxRecDepth 20000 in
/-- way(9, m, n) -/
theorem c_X9_way9 (G : aG) {h : aH} {nx m n : Nat} (hn : 2 ≤ n ∧ n ≤ 16) (hO : isO (9 : Nat) (m : Nat) n = true) : aMet G mX9_way 2 3 34 [.int (nI (9)), .int (nI (m)), .int (nI (n))] h nx (pQ (fun r h1 n1 => r = some (.ref nx) ∧ n1 = nx + 3 ∧ WayAt h1 nx (layL 9 m n) ∧ aOff h h1 nx 3)) := by
  have hO2 := (of_decide_eq_true hO).2
  refine aMet_of rfl (Nat.le_of_ble_eq_true rfl) ?_
  show aw G mX9_way [] (aRoom 2 3 34) (aEnd G (pQ (fun r h1 n1 => r = some (.ref nx) ∧ n1 = nx + 3 ∧ WayAt h1 nx (layL 9 m n) ∧ aOff h h1 nx 3)) 3 34) 0 0 h nx 0 [(0, .int (nI (9))), (1, .int (nI (m))), (2, .int (nI (n)))] []
  refine aw_newV (ci := 7) (fs := [.null, .null]) rfl w_879 w_880 w_24 (by decide +kernel) (Nat.le_of_ble_eq_true rfl) (Nat.le_of_ble_eq_true rfl) dX9_way_0 (fun h_1 f_1 o_1 => ?_)
  refine aw_dup dX9_way_3 rfl ?_
  refine aw_iload_n dX9_way_4 rfl ?_
  refine aw_callIQ (As := [.int (nI (n))]) (rest := [.ref (nx)]) (c_X8_init G f_1 hn.2) kX8_init w_881 rfl rfl (Nat.le_of_ble_eq_true rfl) dX9_way_5 ⟨Nat.le_of_ble_eq_true rfl, Nat.le_of_ble_eq_true rfl⟩ ⟨Nat.le_of_ble_eq_true rfl, Nat.le_of_ble_eq_true rfl⟩ (fun v_1 h_2 n_1 q_1 z_1 => ?_)
  obtain ⟨rfl, rfl, X_1, o_2⟩ := q_1
  refine aw_nx (show _ = nx + 3 from rfl) ?_
  obtain ⟨f0, g0, k1, k2, k3, k4⟩ := X_1
  rw [idL_len] at k2 k3 k4
  have hf0 : ∀ i, i < n → f0 i = nI i := fun i hi => by rw [(k4 i hi).1, idL_at hi]; congr 1; omega
  have hg0 : ∀ i, i < n → g0 i = bI false := fun i hi => by rw [(k4 i hi).2, idL_at hi, decide_eq_false (by omega)]
  have oA : aOff h h_2 nx 3 := fun a ha => (o_2 a (by omega)).trans (o_1 a (by omega))
  refine aw_astore_n (L' := [(3, .ref (nx)), (0, .int (nI (9))), (1, .int (nI (m))), (2, .int (nI (n)))]) dX9_way_8 (by decide) rfl ?_
  refine aw_aload_n dX9_way_9 rfl ?_
  refine aw_getN 0 k1 rfl rfl (by decide) w_887 rfl dX9_way_10 ?_
  refine aw_astore (L' := [(4, .ref (nx + 1)), (3, .ref (nx)), (0, .int (nI (9))), (1, .int (nI (m))), (2, .int (nI (n)))]) dX9_way_13 (by decide) rfl ?_
  refine aw_iload_n dX9_way_15 rfl ?_
  have hx : (nI 9).toInt < 0 ∨ 8 < (nI 9).toInt := by decide
  refine aw_tableOut (tgt := 452) dX9_way_16 hx (by decide) ?_
  have hp1 : 1 ≤ 2 ^ (n - 1) ∧ 2 ^ (n - 1) ≤ 2 ^ 15 := ⟨Nat.one_le_two_pow, Nat.pow_le_pow_right (by decide) (by omega)⟩
  have hm2 : m < 2 ^ 16 := by omega
  refine aw_iload_n dX9_way_452 rfl ?_
  refine aw_istore (L' := [(5, .int (nI (n))), (4, .ref (nx + 1)), (3, .ref (nx)), (0, .int (nI (9))), (1, .int (nI (m))), (2, .int (nI (n)))]) dX9_way_453 (by decide) rfl ?_
  refine aw_ic dX9_way_455 ic_0 ?_
  refine aw_istore (L' := [(6, .int (nI (0))), (5, .int (nI (n))), (4, .ref (nx + 1)), (3, .ref (nx)), (0, .int (nI (9))), (1, .int (nI (m))), (2, .int (nI (n)))]) dX9_way_456 (by decide) rfl ?_
  refine aw_ic dX9_way_458 ic_0 ?_
  refine aw_istore (L' := [(7, .int (nI (0))), (6, .int (nI (0))), (5, .int (nI (n))), (4, .ref (nx + 1)), (3, .ref (nx)), (0, .int (nI (9))), (1, .int (nI (m))), (2, .int (nI (n)))]) dX9_way_459 (by decide) rfl ?_
  have K : ∀ (d : Nat) (k b p : Nat) (h1 : aH), n - k < d → (k ≤ n ∧ b ≤ k ∧ p = n - b ∧ (k = n → b = n)) → (∀ i, b ≤ i → i < k → m.testBit i = false) → (b = 0 ∨ b = n ∨ m.testBit (b - 1) = true) → (h1 nx = some (.inr (7, [.ref (nx + 1), .ref (nx + 2)]))) → (∃ f : Nat → Int32, h1 (nx + 1) = some (.inl (0, n, .inl f)) ∧ ∀ i, i < b → f (p + i) = nI ((if b = 0 then [] else pck m (b - 1) b).getD i 0 / 2)) → (h1 (nx + 2) = some (.inl (1, n, .inl g0))) → (aOff h h1 nx 3) → aw G mX9_way [] (aRoom 2 3 34) (aEnd G (pQ (fun r h1 n1 => r = some (.ref nx) ∧ n1 = nx + 3 ∧ WayAt h1 nx (layL 9 m n) ∧ aOff h h1 nx 3)) 3 34) 3 34 h1 (nx + 3) 461 [(0, .int (nI (9))), (1, .int (nI (m))), (2, .int (nI (n))), (3, .ref (nx)), (4, .ref (nx + 1)), (5, .int (nI (p))), (6, .int (nI (b))), (7, .int (nI (k)))] [] := by
    intro d
    induction d with
    | zero => intro k b p h1 hMd; exact absurd hMd (Nat.not_lt_zero _)
    | succ d ih =>
      intro k b p h1 hMd hk hz hs q1 qf q3 ho
      obtain ⟨f, q2, qp⟩ := qf
      refine aw_iload dX9_way_461 rfl ?_
      refine aw_iload_n dX9_way_463 rfl ?_
      refine aw_icmp_geN (tgt := 541) (by omega) (by omega) dX9_way_464 (by decide) (fun c1 => ?_) (fun c1 => ?_)
      · skip
        have eb : b = n := by omega
        have ep : p = 0 := by omega
        subst eb
        subst ep
        rw [if_neg (by omega)] at qp
        refine aw_aload_n dX9_way_541 rfl ?_
        exact aw_areturn dX9_way_542 rfl (Or.inl ⟨_, rfl⟩) (Or.inr ⟨_, rfl⟩) ⟨_, rfl, rfl, rfl, way_end hO (by decide) q1 q2 q3 (fun j hj => by have := qp j hj; rw [Nat.zero_add] at this; exact this) hg0, ho⟩ (Nat.le_of_ble_eq_true rfl) (Nat.le_of_ble_eq_true rfl)
      · skip
        have htb := tb_div m k
        have hml := Nat.mod_lt (m / 2 ^ k) (show 0 < 2 by decide)
        have ihO := ih
        refine aw_iload dX9_way_467 rfl ?_
        refine aw_iload_n dX9_way_469 rfl ?_
        refine aw_ic dX9_way_470 ic_1 ?_
        refine aw_isubN (by omega) dX9_way_471 ?_
        have J : ((m.testBit k = true) ∨ k = n - 1) → aw G mX9_way [] (aRoom 2 3 34) (aEnd G (pQ (fun r h1 n1 => r = some (.ref nx) ∧ n1 = nx + 3 ∧ WayAt h1 nx (layL 9 m n) ∧ aOff h h1 nx 3)) 3 34) 3 34 h1 (nx + 3) 487 [(0, .int (nI (9))), (1, .int (nI (m))), (2, .int (nI (n))), (3, .ref (nx)), (4, .ref (nx + 1)), (5, .int (nI (p))), (6, .int (nI (b))), (7, .int (nI (k)))] [] := by
          intro hcl
          refine aw_iload dX9_way_487 rfl ?_
          refine aw_iload dX9_way_489 rfl ?_
          refine aw_ic dX9_way_491 ic_1 ?_
          refine aw_iaddN dX9_way_492 ?_
          refine aw_iload dX9_way_493 rfl ?_
          refine aw_isubN (by omega) dX9_way_495 ?_
          refine aw_isubN (by omega) dX9_way_496 ?_
          refine aw_istore (L' := [(5, .int (nI (p - ((k + 1) - b)))), (0, .int (nI (9))), (1, .int (nI (m))), (2, .int (nI (n))), (3, .ref (nx)), (4, .ref (nx + 1)), (6, .int (nI (b))), (7, .int (nI (k)))]) dX9_way_497 (by decide) rfl ?_
          refine aw_iload dX9_way_499 rfl ?_
          refine aw_istore (L' := [(8, .int (nI (b))), (5, .int (nI (p - ((k + 1) - b)))), (0, .int (nI (9))), (1, .int (nI (m))), (2, .int (nI (n))), (3, .ref (nx)), (4, .ref (nx + 1)), (6, .int (nI (b))), (7, .int (nI (k)))]) dX9_way_501 (by decide) rfl ?_
          obtain ⟨r, hr⟩ : ∃ r, r = p - (k + 1 - b) := ⟨_, rfl⟩
          rw [← hr]
          have hqp := qp
          have K2 : ∀ (d : Nat) (t : Nat) (h1 : aH), n - t < d → (b ≤ t ∧ t ≤ k + 1) → (h1 nx = some (.inr (7, [.ref (nx + 1), .ref (nx + 2)]))) → (∃ f : Nat → Int32, h1 (nx + 1) = some (.inl (0, n, .inl f)) ∧ (∀ i, i < b → f (p + i) = nI ((if b = 0 then [] else pck m (b - 1) b).getD i 0 / 2)) ∧ ∀ i, b ≤ i → i < t → f (r + i - b) = nI i) → (h1 (nx + 2) = some (.inl (1, n, .inl g0))) → (aOff h h1 nx 3) → aw G mX9_way [] (aRoom 2 3 34) (aEnd G (pQ (fun r h1 n1 => r = some (.ref nx) ∧ n1 = nx + 3 ∧ WayAt h1 nx (layL 9 m n) ∧ aOff h h1 nx 3)) 3 34) 3 34 h1 (nx + 3) 503 [(0, .int (nI (9))), (1, .int (nI (m))), (2, .int (nI (n))), (3, .ref (nx)), (4, .ref (nx + 1)), (5, .int (nI (r))), (6, .int (nI (b))), (7, .int (nI (k))), (8, .int (nI (t)))] [] := by
            intro d
            induction d with
            | zero => intro t h1 hMd; exact absurd hMd (Nat.not_lt_zero _)
            | succ d ih =>
              intro t h1 hMd ht q1 qf q3 ho
              obtain ⟨f, q2, qp⟩ := qf
              obtain ⟨qa, qb⟩ := qp
              refine aw_iload dX9_way_503 rfl ?_
              refine aw_iload dX9_way_505 rfl ?_
              refine aw_icmp_gtN (tgt := 529) (by omega) (by omega) dX9_way_507 (by decide) (fun c5 => ?_) (fun c5 => ?_)
              · skip
                have hpt := pck_top (m := m) (b := b) (k := k) hk.2.1 hz (by rcases hs with q | q | q; exact Or.inl q; omega; exact Or.inr q)
                refine aw_iload dX9_way_529 rfl ?_
                refine aw_ic dX9_way_531 ic_1 ?_
                refine aw_iaddN dX9_way_532 ?_
                refine aw_istore (L' := [(6, .int (nI (k + 1))), (0, .int (nI (9))), (1, .int (nI (m))), (2, .int (nI (n))), (3, .ref (nx)), (4, .ref (nx + 1)), (5, .int (nI (r))), (7, .int (nI (k))), (8, .int (nI (t)))]) dX9_way_533 (by decide) rfl ?_
                refine aw_iincN (k := 1) (L' := [(7, .int (nI (k + 1))), (6, .int (nI (k + 1))), (0, .int (nI (9))), (1, .int (nI (m))), (2, .int (nI (n))), (3, .ref (nx)), (4, .ref (nx + 1)), (5, .int (nI (r))), (8, .int (nI (t)))]) dX9_way_535 (by decide) rfl (by decide) rfl ?_
                refine aw_goto (tgt := 461) dX9_way_538 (by decide) ?_
                have hfill : ∀ i, i < k + 1 → f (r + i) = nI ((if k + 1 = 0 then [] else pck m (k + 1 - 1) (k + 1)).getD i 0 / 2) := fun i hi => by
                  rw [if_neg (by omega), show k + 1 - 1 = k by omega, hpt, gD_app, spn_len]
                  by_cases w : i < k + 1 - b
                  · rw [if_pos w, spn_at w, show 2 * (b + i) / 2 = b + i by omega, ← qb (b + i) (by omega) (by omega)]; congr 1; omega
                  · rw [if_neg w, ← qa (i - (k + 1 - b)) (by omega)]; congr 1; omega
                refine aw_sub (L' := [(0, .int (nI (9))), (1, .int (nI (m))), (2, .int (nI (n))), (3, .ref (nx)), (4, .ref (nx + 1)), (5, .int (nI (r))), (6, .int (nI (k + 1))), (7, .int (nI (k + 1)))]) [2, 3, 4, 5, 6, 7, 1, 0] rfl ?_
                exact ihO (k + 1) (k + 1) r h1 (by omega) ⟨by omega, by omega, by omega, by omega⟩ (fun i h1 h2 => by omega) (by rcases hcl with q | q; exact Or.inr (Or.inr q); exact Or.inr (Or.inl (by omega))) q1 ⟨_, q2, hfill⟩ q3 ho
              · skip
                refine aw_aload dX9_way_510 rfl ?_
                refine aw_iload dX9_way_512 rfl ?_
                refine aw_iload dX9_way_514 rfl ?_
                refine aw_iaddN dX9_way_516 ?_
                refine aw_iload dX9_way_517 rfl ?_
                refine aw_isubN (by omega) dX9_way_519 ?_
                refine aw_iload dX9_way_520 rfl ?_
                refine aw_iastoreV q2 (by omega) (by omega) dX9_way_522 (fun h_3 f_2 o_3 => ?_)
                have f_3 := (o_3 nx (by omega)).trans q1
                have f_4 := (o_3 (nx + 2) (by omega)).trans q3
                refine aw_iincN (k := 1) (L' := [(8, .int (nI (t + 1))), (0, .int (nI (9))), (1, .int (nI (m))), (2, .int (nI (n))), (3, .ref (nx)), (4, .ref (nx + 1)), (5, .int (nI (r))), (6, .int (nI (b))), (7, .int (nI (k)))]) dX9_way_523 (by decide) rfl (by decide) rfl ?_
                refine aw_goto (tgt := 503) dX9_way_526 (by decide) ?_
                refine aw_sub (L' := [(0, .int (nI (9))), (1, .int (nI (m))), (2, .int (nI (n))), (3, .ref (nx)), (4, .ref (nx + 1)), (5, .int (nI (r))), (6, .int (nI (b))), (7, .int (nI (k))), (8, .int (nI (t + 1)))]) [1, 2, 3, 4, 5, 6, 7, 8, 0] rfl ?_
                exact ih (t + 1) h_3 (by omega) (by omega) f_3 ⟨_, f_2, ⟨fun i hi => (by unfold upd; rw [if_neg (by omega)]; exact qa i hi), fun i h1 h2 => (by unfold upd; by_cases w : i = t; rw [if_pos (by omega), w]; rw [if_neg (by omega)]; exact qb i h1 (by omega))⟩⟩ f_4 (fun a ha => ((o_3 a (by omega))).trans (ho a ha))
          refine aw_sub (L' := [(0, .int (nI (9))), (1, .int (nI (m))), (2, .int (nI (n))), (3, .ref (nx)), (4, .ref (nx + 1)), (5, .int (nI (r))), (6, .int (nI (b))), (7, .int (nI (k))), (8, .int (nI (b)))]) [2, 3, 4, 5, 6, 1, 7, 8, 0] rfl ?_
          exact K2 (n + 1) b h1 (by omega) (by omega) q1 ⟨f, q2, hqp, fun i h1 h2 => by omega⟩ q3 ho
        refine aw_icmp_geN (tgt := 487) (by omega) (by omega) dX9_way_472 (by decide) (fun c2 => ?_) (fun c2 => ?_)
        · skip
          exact J (Or.inr (by omega))
        · skip
          refine aw_iload_n dX9_way_475 rfl ?_
          refine aw_iload dX9_way_476 rfl ?_
          refine aw_ishr dX9_way_478 ?_
          refine aw_top (n_shr (by omega) k (by omega)) ?_
          refine aw_ic dX9_way_479 ic_1 ?_
          refine aw_iand dX9_way_480 ?_
          refine aw_top (show ((nI (m / 2 ^ k)) &&& (nI (1))) = (nI (m / 2 ^ k % 2)) from n_odd (Nat.lt_of_le_of_lt (Nat.div_le_self _ _) (by omega))) ?_
          refine aw_if_neN (tgt := 487) (by omega) dX9_way_481 (by decide) (fun c3 => ?_) (fun c3 => ?_)
          · skip
            exact J (Or.inl (by rw [htb]; simp; omega))
          · skip
            have hb : m.testBit k = false := by rw [htb]; simp; omega
            refine aw_goto (tgt := 535) dX9_way_484 (by decide) ?_
            refine aw_iincN (k := 1) (L' := [(7, .int (nI (k + 1))), (0, .int (nI (9))), (1, .int (nI (m))), (2, .int (nI (n))), (3, .ref (nx)), (4, .ref (nx + 1)), (5, .int (nI (p))), (6, .int (nI (b)))]) dX9_way_535 (by decide) rfl (by decide) rfl ?_
            refine aw_goto (tgt := 461) dX9_way_538 (by decide) ?_
            refine aw_sub (L' := [(0, .int (nI (9))), (1, .int (nI (m))), (2, .int (nI (n))), (3, .ref (nx)), (4, .ref (nx + 1)), (5, .int (nI (p))), (6, .int (nI (b))), (7, .int (nI (k + 1)))]) [1, 2, 3, 4, 5, 6, 7, 0] rfl ?_
            exact ihO (k + 1) b p h1 (by omega) ⟨by omega, by omega, by omega, by omega⟩ (fun i h1 h2 => by by_cases w : i = k; rw [w]; exact hb; exact hz i h1 (by omega)) hs q1 ⟨_, q2, qp⟩ q3 ho
  refine aw_sub (L' := [(0, .int (nI (9))), (1, .int (nI (m))), (2, .int (nI (n))), (3, .ref (nx)), (4, .ref (nx + 1)), (5, .int (nI (n))), (6, .int (nI (0))), (7, .int (nI (0)))]) [5, 6, 7, 4, 3, 2, 1, 0] rfl ?_
  exact K (n + 1) 0 0 n h_2 (by omega) ⟨Nat.zero_le _, Nat.le_refl _, by omega, by omega⟩ (fun i h1 h2 => absurd h2 (Nat.not_lt_zero _)) (Or.inl rfl) k1 ⟨f0, k2, fun i hi => absurd hi (Nat.not_lt_zero _)⟩ k3 oA
/-- way(k, m, n) is what the class lays -/
theorem c_X9_way (G : aG) {h : aH} {nx k m n : Nat} (hn : 2 ≤ n ∧ n ≤ 16) (hO : isO (k : Int) (m : Int) n = true) : aMet G mX9_way 2 3 34 [.int (nI k), .int (nI m), .int (nI n)] h nx (pQ (fun r h1 n1 => r = some (.ref nx) ∧ n1 = nx + 3 ∧ WayAt h1 nx (layL k m n) ∧ aOff h h1 nx 3)) := by
  have h1 := (of_decide_eq_true hO).2
  rcases (show k = 0 ∨ (k = 1 ∧ m = 0) ∨ (k = 2 ∧ m = 0) ∨ (k = 3 ∧ m = 0) ∨ (k = 4 ∧ m = 0) ∨ k = 5 ∨ k = 6 ∨ k = 7 ∨ k = 8 ∨ k = 9 by omega) with rfl | ⟨rfl, rfl⟩ | ⟨rfl, rfl⟩ | ⟨rfl, rfl⟩ | ⟨rfl, rfl⟩ | rfl | rfl | rfl | rfl | rfl
  · exact c_X9_way0 G hn hO
  · exact c_X9_way1 (m := 0) G hn hO
  · exact c_X9_way2 (m := 0) G hn hO
  · exact c_X9_way3 (m := 0) G hn hO
  · exact c_X9_way4 (m := 0) G hn hO
  · exact c_X9_way5 G hn hO
  · exact c_X9_way6 G hn hO
  · exact c_X9_way7 G hn hO
  · exact c_X9_way8 G hn hO
  · exact c_X9_way9 G hn hO
