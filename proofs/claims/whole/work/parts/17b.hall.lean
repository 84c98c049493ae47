set_option maxHeartbeats 4000000 in
set_option maxRecDepth 20000 in
/-- ShuffleHall() -/
theorem c_X6_init (G : aG) {h : aH} {q : Nat} (f1 : h q = some (.inr (5, [.null, .null, .int (nI 0), .int (nI 0), .int (nI 0), .null, .null, .null]))) : aMet G mX6_init 3 203 3065 [.ref (q)] h (q + 1) (pQ (fun v h1 n1 => v = none ∧ n1 = q + 204 ∧ HallAt h1 q ([], [], 0) ∧ aOff h h1 q 204)) := by
  refine aMet_of rfl (Nat.le_of_ble_eq_true rfl) ?_
  show aw G mX6_init [] (aRoom 3 203 3065) (aEnd G (pQ (fun v h1 n1 => v = none ∧ n1 = q + 204 ∧ HallAt h1 q ([], [], 0) ∧ aOff h h1 q 204)) 203 3065) 0 0 h (q + 1) 0 [(0, .ref (q))] []
  refine aw_aload_n dX6_init_0 rfl ?_
  refine aw_objInit w_33 w_34 w_35 (Nat.le_of_ble_eq_true rfl) (Nat.le_of_ble_eq_true rfl) dX6_init_1 ?_
  refine aw_aload_n dX6_init_4 rfl ?_
  refine aw_ic dX6_init_5 ic_4 ?_
  refine aw_anewKV (by decide) w_36 (Nat.le_of_ble_eq_true rfl) (Nat.le_of_ble_eq_true rfl) dX6_init_6 (fun h_1 f_1 o_1 => ?_)
  have f_2 := (o_1 q (by omega)).trans f1
  refine aw_nx (show q + 1 + 1 = q + 2 from rfl) ?_
  refine aw_putFV (v := .ref (q + 1)) (ty := (.array (.object "ShuffleHall$Deck"))) (fs' := [.ref (q + 1), .null, .int (nI (0)), .int (nI (0)), .int (nI (0)), .null, .null, .null]) 0 f_2 rfl rfl (by decide) (by decide +kernel) rfl rfl rfl (Nat.le_of_ble_eq_true rfl) rfl rfl rfl w_94 dX6_init_9 (fun h_2 f_3 o_2 => ?_)
  have f_4 := (o_2 (q + 1) (by omega)).trans f_1
  refine aw_aload_n dX6_init_12 rfl ?_
  refine aw_ic dX6_init_13 ic_4 ?_
  refine aw_anewSV (by decide) w_38 (Nat.le_of_ble_eq_true rfl) (Nat.le_of_ble_eq_true rfl) dX6_init_14 (fun h_3 f_5 o_3 => ?_)
  have f_6 := (o_3 q (by omega)).trans f_3
  have f_7 := (o_3 (q + 1) (by omega)).trans f_4
  refine aw_nx (show q + 2 + 1 = q + 3 from rfl) ?_
  refine aw_putFV (v := .ref (q + 2)) (ty := (.array (.object "ShuffleHall$Sequence"))) (fs' := [.ref (q + 1), .ref (q + 2), .int (nI (0)), .int (nI (0)), .int (nI (0)), .null, .null, .null]) 1 f_6 rfl rfl (by decide) (by decide +kernel) rfl rfl rfl (Nat.le_of_ble_eq_true rfl) rfl rfl rfl w_95 dX6_init_17 (fun h_4 f_8 o_4 => ?_)
  have f_9 := (o_4 (q + 2) (by omega)).trans f_5
  have f_10 := (o_4 (q + 1) (by omega)).trans f_7
  refine aw_aload_n dX6_init_20 rfl ?_
  refine aw_newV (ci := 3) (fs := [.null, .null, .int (nI (0))]) rfl w_40 w_41 w_2 (by decide +kernel) (Nat.le_of_ble_eq_true rfl) (Nat.le_of_ble_eq_true rfl) dX6_init_21 (fun h_5 f_11 o_5 => ?_)
  have f_12 := (o_5 q (by omega)).trans f_8
  have f_13 := (o_5 (q + 2) (by omega)).trans f_9
  have f_14 := (o_5 (q + 1) (by omega)).trans f_10
  refine aw_nx (show q + 3 + 1 = q + 4 from rfl) ?_
  refine aw_dup dX6_init_24 rfl ?_
  refine aw_callINQ (As := []) (rest := [.ref (q + 3), .ref (q)]) (c_X3_init G f_11) kX3_init w_42 rfl rfl (Nat.le_of_ble_eq_true rfl) dX6_init_25 ⟨Nat.le_of_ble_eq_true rfl, Nat.le_of_ble_eq_true rfl⟩ ⟨Nat.le_of_ble_eq_true rfl, Nat.le_of_ble_eq_true rfl⟩ (fun v_1 h_6 n_1 q_1 z_1 => ?_)
  obtain ⟨rfl, rfl, X_1, o_6⟩ := q_1
  refine aw_nx (show _ = q + 6 from rfl) ?_
  have f_15 := (o_6 q (by omega)).trans f_12
  have f_16 := (o_6 (q + 2) (by omega)).trans f_13
  have f_17 := (o_6 (q + 1) (by omega)).trans f_14
  refine aw_putFV (v := .ref (q + 3)) (ty := (.object "ShuffleHall$Row")) (fs' := [.ref (q + 1), .ref (q + 2), .int (nI (0)), .int (nI (0)), .int (nI (0)), .ref (q + 3), .null, .null]) 5 f_15 rfl rfl (by decide) (by decide +kernel) rfl rfl rfl (Nat.le_of_ble_eq_true rfl) rfl rfl rfl w_99 dX6_init_28 (fun h_7 f_18 o_7 => ?_)
  have f_19 := (o_7 (q + 2) (by omega)).trans f_16
  have f_20 := (o_7 (q + 1) (by omega)).trans f_17
  have P_1 := X_1.keep (fun a g1 g2 => o_7 a (by omega))
  refine aw_aload_n dX6_init_31 rfl ?_
  refine aw_newV (ci := 3) (fs := [.null, .null, .int (nI (0))]) rfl w_40 w_41 w_2 (by decide +kernel) (Nat.le_of_ble_eq_true rfl) (Nat.le_of_ble_eq_true rfl) dX6_init_32 (fun h_8 f_21 o_8 => ?_)
  have f_22 := (o_8 q (by omega)).trans f_18
  have f_23 := (o_8 (q + 2) (by omega)).trans f_19
  have f_24 := (o_8 (q + 1) (by omega)).trans f_20
  have P_2 := P_1.keep (fun a g1 g2 => o_8 a (by omega))
  refine aw_nx (show q + 6 + 1 = q + 7 from rfl) ?_
  refine aw_dup dX6_init_35 rfl ?_
  refine aw_callINQ (As := []) (rest := [.ref (q + 6), .ref (q)]) (c_X3_init G f_21) kX3_init w_42 rfl rfl (Nat.le_of_ble_eq_true rfl) dX6_init_36 ⟨Nat.le_of_ble_eq_true rfl, Nat.le_of_ble_eq_true rfl⟩ ⟨Nat.le_of_ble_eq_true rfl, Nat.le_of_ble_eq_true rfl⟩ (fun v_2 h_9 n_2 q_2 z_2 => ?_)
  obtain ⟨rfl, rfl, X_2, o_9⟩ := q_2
  refine aw_nx (show _ = q + 9 from rfl) ?_
  have f_25 := (o_9 q (by omega)).trans f_22
  have f_26 := (o_9 (q + 2) (by omega)).trans f_23
  have f_27 := (o_9 (q + 1) (by omega)).trans f_24
  have P_3 := P_2.keep (fun a g1 g2 => o_9 a (by omega))
  refine aw_putFV (v := .ref (q + 6)) (ty := (.object "ShuffleHall$Row")) (fs' := [.ref (q + 1), .ref (q + 2), .int (nI (0)), .int (nI (0)), .int (nI (0)), .ref (q + 3), .ref (q + 6), .null]) 6 f_25 rfl rfl (by decide) (by decide +kernel) rfl rfl rfl (Nat.le_of_ble_eq_true rfl) rfl rfl rfl w_100 dX6_init_39 (fun h_10 f_28 o_10 => ?_)
  have f_29 := (o_10 (q + 2) (by omega)).trans f_26
  have f_30 := (o_10 (q + 1) (by omega)).trans f_27
  have P_4 := P_3.keep (fun a g1 g2 => o_10 a (by omega))
  have P_5 := X_2.keep (fun a g1 g2 => o_10 a (by omega))
  refine aw_aload_n dX6_init_42 rfl ?_
  refine aw_newV (ci := 3) (fs := [.null, .null, .int (nI (0))]) rfl w_40 w_41 w_2 (by decide +kernel) (Nat.le_of_ble_eq_true rfl) (Nat.le_of_ble_eq_true rfl) dX6_init_43 (fun h_11 f_31 o_11 => ?_)
  have f_32 := (o_11 q (by omega)).trans f_28
  have f_33 := (o_11 (q + 2) (by omega)).trans f_29
  have f_34 := (o_11 (q + 1) (by omega)).trans f_30
  have P_6 := P_4.keep (fun a g1 g2 => o_11 a (by omega))
  have P_7 := P_5.keep (fun a g1 g2 => o_11 a (by omega))
  refine aw_nx (show q + 9 + 1 = q + 10 from rfl) ?_
  refine aw_dup dX6_init_46 rfl ?_
  refine aw_callINQ (As := []) (rest := [.ref (q + 9), .ref (q)]) (c_X3_init G f_31) kX3_init w_42 rfl rfl (Nat.le_of_ble_eq_true rfl) dX6_init_47 ⟨Nat.le_of_ble_eq_true rfl, Nat.le_of_ble_eq_true rfl⟩ ⟨Nat.le_of_ble_eq_true rfl, Nat.le_of_ble_eq_true rfl⟩ (fun v_3 h_12 n_3 q_3 z_3 => ?_)
  obtain ⟨rfl, rfl, X_3, o_12⟩ := q_3
  refine aw_nx (show _ = q + 12 from rfl) ?_
  have f_35 := (o_12 q (by omega)).trans f_32
  have f_36 := (o_12 (q + 2) (by omega)).trans f_33
  have f_37 := (o_12 (q + 1) (by omega)).trans f_34
  have P_8 := P_6.keep (fun a g1 g2 => o_12 a (by omega))
  have P_9 := P_7.keep (fun a g1 g2 => o_12 a (by omega))
  refine aw_putFV (v := .ref (q + 9)) (ty := (.object "ShuffleHall$Row")) (fs' := [.ref (q + 1), .ref (q + 2), .int (nI (0)), .int (nI (0)), .int (nI (0)), .ref (q + 3), .ref (q + 6), .ref (q + 9)]) 7 f_35 rfl rfl (by decide) (by decide +kernel) rfl rfl rfl (Nat.le_of_ble_eq_true rfl) rfl rfl rfl w_101 dX6_init_50 (fun h_13 f_38 o_13 => ?_)
  have f_39 := (o_13 (q + 2) (by omega)).trans f_36
  have f_40 := (o_13 (q + 1) (by omega)).trans f_37
  have P_10 := P_8.keep (fun a g1 g2 => o_13 a (by omega))
  have P_11 := P_9.keep (fun a g1 g2 => o_13 a (by omega))
  have P_12 := X_3.keep (fun a g1 g2 => o_13 a (by omega))
  refine aw_ic dX6_init_53 ic_0 ?_
  refine aw_istore_n (L' := [(1, .int (nI (0))), (0, .ref (q))]) dX6_init_54 (by decide) rfl ?_
  have oA : ∀ a, (a < q ∨ q + 12 ≤ a) → h_13 a = h a := fun a ha => (((((((((((((o_13 a (by omega)).trans (o_12 a (by omega))).trans (o_11 a (by omega))).trans (o_10 a (by omega))).trans (o_9 a (by omega))).trans (o_8 a (by omega))).trans (o_7 a (by omega))).trans (o_6 a (by omega))).trans (o_5 a (by omega))).trans (o_4 a (by omega))).trans (o_3 a (by omega))).trans (o_2 a (by omega))).trans (o_1 a (by omega)))
  have K : ∀ (d : Nat) (i : Nat) (h1 : aH), 4 - i < d → (i ≤ 4) → (h1 q = some (.inr (5, [.ref (q + 1), .ref (q + 2), .int (nI 0), .int (nI 0), .int (nI 0), .ref (q + 3), .ref (q + 6), .ref (q + 9)]))) → (h1 (q + 1) = some (.inl (5, 4, .inr (.inr (.inr (.inr (fun j => if j < i then some (q + 12 + 45 * j) else none))))))) → (h1 (q + 2) = some (.inl (6, 4, .inr (.inr (.inr (.inr (fun _ => none))))))) → (RowAt h1 (q + 3) []) → (RowAt h1 (q + 6) []) → (RowAt h1 (q + 9) []) → (∀ j, j < i → DeckAt h1 (q + 12 + 45 * j) [] [] 0) → (∀ a, a < q ∨ q + 204 ≤ a → h1 a = h a) → aw G mX6_init [] (aRoom 3 203 3065) (aEnd G (pQ (fun v h1 n1 => v = none ∧ n1 = q + 204 ∧ HallAt h1 q ([], [], 0) ∧ aOff h h1 q 204)) 203 3065) (11 + 45 * i) (113 + 719 * i) h1 (q + 12 + 45 * i) 55 [(0, .ref (q)), (1, .int (nI (i)))] [] := by
    intro d
    induction d with
    | zero => intro i h1 hMd; exact absurd hMd (Nat.not_lt_zero _)
    | succ d ih =>
      intro i h1 hMd hi e1 e2 e3 r1 r2 r3 hD ho
      refine aw_iload_n dX6_init_55 rfl ?_
      refine aw_ic dX6_init_56 ic_4 ?_
      refine aw_icmp_geN (tgt := 79) (by omega) (by omega) dX6_init_57 (by decide) (fun c1 => ?_) (fun c1 => ?_)
      · skip
        have e : i = 4 := by omega
        subst e
        have hD4 := hD
        refine aw_ic dX6_init_79 ic_0 ?_
        refine aw_istore_n (L' := [(1, .int (nI (0))), (0, .ref (q))]) dX6_init_80 (by decide) rfl ?_
        refine aw_nx (show _ = q + 192 from rfl) ?_
        have e2b : h1 (q + 1) = some (.inl (5, 4, .inr (.inr (.inr (.inr (fDk q)))))) := e2
        have K2 : ∀ (d : Nat) (i : Nat) (h2 : aH), 4 - i < d → (i ≤ 4) → (h2 q = some (.inr (5, [.ref (q + 1), .ref (q + 2), .int (nI 0), .int (nI 0), .int (nI 0), .ref (q + 3), .ref (q + 6), .ref (q + 9)]))) → (h2 (q + 1) = some (.inl (5, 4, .inr (.inr (.inr (.inr (fDk q))))))) → (h2 (q + 2) = some (.inl (6, 4, .inr (.inr (.inr (.inr (fun j => if j < i then some (q + 192 + 3 * j) else none))))))) → (RowAt h2 (q + 3) []) → (RowAt h2 (q + 6) []) → (RowAt h2 (q + 9) []) → (∀ j, j < 4 → DeckAt h2 (q + 12 + 45 * j) [] [] 0) → (∀ j, j < i → SeqAt h2 (q + 192 + 3 * j) []) → (∀ a, a < q ∨ q + 204 ≤ a → h2 a = h a) → aw G mX6_init [] (aRoom 3 203 3065) (aEnd G (pQ (fun v h1 n1 => v = none ∧ n1 = q + 204 ∧ HallAt h1 q ([], [], 0) ∧ aOff h h1 q 204)) 203 3065) (191 + 3 * i) (2989 + 19 * i) h2 (q + 192 + 3 * i) 81 [(0, .ref (q)), (1, .int (nI (i)))] [] := by
          intro d
          induction d with
          | zero => intro i h2 hMd; exact absurd hMd (Nat.not_lt_zero _)
          | succ d ih =>
            intro i h2 hMd hi e1 e2 e3 r1 r2 r3 hD hS ho
            refine aw_iload_n dX6_init_81 rfl ?_
            refine aw_ic dX6_init_82 ic_4 ?_
            refine aw_icmp_geN (tgt := 105) (by omega) (by omega) dX6_init_83 (by decide) (fun c2 => ?_) (fun c2 => ?_)
            · skip
              have e : i = 4 := by omega
              subst e
              exact aw_return dX6_init_105 rfl ⟨_, rfl, rfl, rfl, ⟨e1, e2, e3, ⟨_, r1⟩, ⟨_, r2⟩, ⟨_, r3⟩, fun i hi => hD i hi, fun j hj => hS j hj⟩, ho⟩ (by omega) (by omega)
            · skip
              refine aw_aload_n dX6_init_86 rfl ?_
              refine aw_get 1 e1 rfl rfl (by decide) w_95 rfl dX6_init_87 ?_
              refine aw_iload_n dX6_init_90 rfl ?_
              refine aw_newV (ci := 4) (fs := [.null, .null, .int (nI (0))]) rfl w_38 w_79 w_4 (by decide +kernel) (show 191 + 3 * i + 1 ≤ 203 by omega) (show 2989 + 19 * i + 3 ≤ 3065 by omega) dX6_init_91 (fun h_14 f_41 o_14 => ?_)
              have f_42 := (o_14 q (by omega)).trans e1
              have f_43 := (o_14 (q + 1) (by omega)).trans e2
              have f_44 := (o_14 (q + 2) (by omega)).trans e3
              have P_13 := r1.keep (fun a g1 g2 => o_14 a (by omega))
              have P_14 := r2.keep (fun a g1 g2 => o_14 a (by omega))
              have P_15 := r3.keep (fun a g1 g2 => o_14 a (by omega))
              refine aw_dup dX6_init_94 rfl ?_
              refine aw_callINQ (As := []) (rest := [.ref (q + 192 + 3 * i), .int (nI (i)), .ref (q + 2)]) (c_X4_init G f_41) kX4_init w_80 rfl rfl (Nat.le_of_ble_eq_true rfl) dX6_init_95 ⟨Nat.le_of_ble_eq_true rfl, Nat.le_of_ble_eq_true rfl⟩ ⟨(show 191 + 3 * i + 1 + 2 ≤ 203 by omega), (show 2989 + 19 * i + 3 + 16 ≤ 3065 by omega)⟩ (fun v_4 h_15 n_4 q_4 z_4 => ?_)
              obtain ⟨rfl, rfl, X_4, o_15⟩ := q_4
              refine aw_nx (show _ = q + 192 + 3 * (i + 1) from by omega) ?_
              have f_45 := (o_15 q (by omega)).trans f_42
              have f_46 := (o_15 (q + 1) (by omega)).trans f_43
              have f_47 := (o_15 (q + 2) (by omega)).trans f_44
              have P_16 := P_13.keep (fun a g1 g2 => o_15 a (by omega))
              have P_17 := P_14.keep (fun a g1 g2 => o_15 a (by omega))
              have P_18 := P_15.keep (fun a g1 g2 => o_15 a (by omega))
              have f_48 := X_4
              obtain ⟨sf, sg, s1, s2, s3, s4, s5⟩ := f_48
              refine aw_aastX (ci := 4) f_47 (fun _ => rfl) rfl s1 (by omega) (by omega) dX6_init_98 (fun h_16 f_49 o_16 => ?_)
              have f_50 := (o_16 q (by omega)).trans f_45
              have f_51 := (o_16 (q + 1) (by omega)).trans f_46
              have f_52 := (o_16 (q + 192 + 3 * i) (by omega)).trans s1
              have P_19 := P_16.keep (fun a g1 g2 => o_16 a (by omega))
              have P_20 := P_17.keep (fun a g1 g2 => o_16 a (by omega))
              have P_21 := P_18.keep (fun a g1 g2 => o_16 a (by omega))
              have P_22 := X_4.keep (fun a g1 g2 => o_16 a (by omega))
              refine aw_iincN (k := 1) (L' := [(1, .int (nI (i + 1))), (0, .ref (q))]) dX6_init_99 (by decide) rfl (by decide) rfl ?_
              refine aw_goto (tgt := 81) dX6_init_102 (by decide) ?_
              have hD2 : ∀ j, j < 4 → DeckAt h_16 (q + 12 + 45 * j) [] [] 0 := fun j hj => (hD j hj).keep (fun a g1 g2 => (((o_16 a (by omega)).trans (o_15 a (by omega))).trans (o_14 a (by omega))))
              have hS2 : ∀ j, j < i + 1 → SeqAt h_16 (q + 192 + 3 * j) [] := fun j hj => by
                by_cases z : j = i
                · subst z; exact P_22
                · exact (hS j (by omega)).keep (fun a g1 g2 => (((o_16 a (by omega)).trans (o_15 a (by omega))).trans (o_14 a (by omega))))
              have e3n := f_49
              rw [show va_up (fun j => if j < i then some (q + 192 + 3 * j) else none) i (some (q + 192 + 3 * i)) = (fun j => if j < i + 1 then some (q + 192 + 3 * j) else none) from hall_up] at e3n
              refine aw_widen (cells' := 191 + 3 * (i + 1)) (slots' := 2989 + 19 * (i + 1)) (show 191 + 3 * i + 1 + 2 ≤ _ by omega) (show 2989 + 19 * i + 3 + 16 ≤ _ by omega) ?_
              refine aw_sub (L' := [(0, .ref (q)), (1, .int (nI (i + 1)))]) [1, 0] rfl ?_
              exact ih (i + 1) h_16 (by omega) (by omega) f_50 f_51 e3n P_19 P_20 P_21 hD2 hS2 (fun a ha => ((((o_16 a (by omega)).trans (o_15 a (by omega))).trans (o_14 a (by omega)))).trans (ho a (by omega)))
        refine aw_sub (L' := [(0, .ref (q)), (1, .int (nI (0)))]) [1, 0] rfl ?_
        exact K2 5 0 h1 (by omega) (by omega) e1 e2b e3 r1 r2 r3 hD4 (fun j hj => absurd hj (Nat.not_lt_zero _)) ho
      · skip
        refine aw_aload_n dX6_init_60 rfl ?_
        refine aw_get 0 e1 rfl rfl (by decide) w_94 rfl dX6_init_61 ?_
        refine aw_iload_n dX6_init_64 rfl ?_
        refine aw_newV (ci := 2) (fs := [.null, .null, .int (nI (0)), .int (nI (0))]) rfl w_36 w_57 w_3 (by decide +kernel) (show 11 + 45 * i + 1 ≤ 203 by omega) (show 113 + 719 * i + 4 ≤ 3065 by omega) dX6_init_65 (fun h_17 f_53 o_17 => ?_)
        have f_54 := (o_17 q (by omega)).trans e1
        have f_55 := (o_17 (q + 1) (by omega)).trans e2
        have f_56 := (o_17 (q + 2) (by omega)).trans e3
        have P_23 := r1.keep (fun a g1 g2 => o_17 a (by omega))
        have P_24 := r2.keep (fun a g1 g2 => o_17 a (by omega))
        have P_25 := r3.keep (fun a g1 g2 => o_17 a (by omega))
        refine aw_dup dX6_init_68 rfl ?_
        refine aw_callINQ (As := []) (rest := [.ref (q + 12 + 45 * i), .int (nI (i)), .ref (q + 1)]) (c_X1_init G f_53) kX1_init w_58 rfl rfl (Nat.le_of_ble_eq_true rfl) dX6_init_69 ⟨Nat.le_of_ble_eq_true rfl, Nat.le_of_ble_eq_true rfl⟩ ⟨(show 11 + 45 * i + 1 + 44 ≤ 203 by omega), (show 113 + 719 * i + 4 + 715 ≤ 3065 by omega)⟩ (fun v_5 h_18 n_5 q_5 z_5 => ?_)
        obtain ⟨rfl, rfl, X_5, o_18⟩ := q_5
        refine aw_nx (show _ = q + 12 + 45 * (i + 1) from by omega) ?_
        have f_57 := (o_18 q (by omega)).trans f_54
        have f_58 := (o_18 (q + 1) (by omega)).trans f_55
        have f_59 := (o_18 (q + 2) (by omega)).trans f_56
        have P_26 := P_23.keep (fun a g1 g2 => o_18 a (by omega))
        have P_27 := P_24.keep (fun a g1 g2 => o_18 a (by omega))
        have P_28 := P_25.keep (fun a g1 g2 => o_18 a (by omega))
        have f_60 := X_5.1
        refine aw_aastX (ci := 2) f_58 (fun _ => rfl) rfl f_60 (by omega) (by omega) dX6_init_72 (fun h_19 f_61 o_19 => ?_)
        have f_62 := (o_19 q (by omega)).trans f_57
        have f_63 := (o_19 (q + 2) (by omega)).trans f_59
        have f_64 := (o_19 (q + 12 + 45 * i) (by omega)).trans f_60
        have P_29 := P_26.keep (fun a g1 g2 => o_19 a (by omega))
        have P_30 := P_27.keep (fun a g1 g2 => o_19 a (by omega))
        have P_31 := P_28.keep (fun a g1 g2 => o_19 a (by omega))
        have P_32 := X_5.keep (fun a g1 g2 => o_19 a (by omega))
        refine aw_iincN (k := 1) (L' := [(1, .int (nI (i + 1))), (0, .ref (q))]) dX6_init_73 (by decide) rfl (by decide) rfl ?_
        refine aw_goto (tgt := 55) dX6_init_76 (by decide) ?_
        have hD2 : ∀ j, j < i + 1 → DeckAt h_19 (q + 12 + 45 * j) [] [] 0 := fun j hj => by
          by_cases z : j = i
          · subst z; exact P_32
          · exact (hD j (by omega)).keep (fun a g1 g2 => (((o_19 a (by omega)).trans (o_18 a (by omega))).trans (o_17 a (by omega))))
        have e2n := f_61
        rw [show va_up (fun j => if j < i then some (q + 12 + 45 * j) else none) i (some (q + 12 + 45 * i)) = (fun j => if j < i + 1 then some (q + 12 + 45 * j) else none) from hall_up] at e2n
        refine aw_widen (cells' := 11 + 45 * (i + 1)) (slots' := 113 + 719 * (i + 1)) (show 11 + 45 * i + 1 + 44 ≤ _ by omega) (show 113 + 719 * i + 4 + 715 ≤ _ by omega) ?_
        refine aw_sub (L' := [(0, .ref (q)), (1, .int (nI (i + 1)))]) [1, 0] rfl ?_
        exact ih (i + 1) h_19 (by omega) (by omega) f_62 e2n f_63 P_29 P_30 P_31 hD2 (fun a ha => ((((o_19 a (by omega)).trans (o_18 a (by omega))).trans (o_17 a (by omega)))).trans (ho a (by omega)))
  refine aw_sub (L' := [(0, .ref (q)), (1, .int (nI (0)))]) [1, 0] rfl ?_
  refine aw_nx (show _ = q + 12 + 45 * 0 from rfl) ?_
  exact K 5 0 h_13 (by omega) (by omega) f_38 f_40 f_39 P_10 P_11 P_12 (fun j hj => absurd hj (Nat.not_lt_zero _)) (fun a ha => oA a (by omega))
