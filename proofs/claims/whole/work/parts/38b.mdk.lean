set_option maxHeartbeats 4000000 in
set_option maxRecDepth 20000 in
/-- Deck(n) -/
theorem c_X7_init (G : aG) {h : aH} {dk n : Nat} (f1 : h dk = some (.inr (6, [.null, .null, .null, .null, .int (nI 0)]))) (hn : n ≤ 16) : aMet G mX7_init 4 4 38 [.ref (dk), .int (nI (n))] h (dk + 1) (pQ (fun v h1 n1 => v = none ∧ n1 = dk + 5 ∧ CardsAt h1 dk (dk + 3) (dk + 4) (idL n) 0 ∧ h1 (dk + 1) = some (.inr (1, [.int (nI 0), .ref G.2.2.2, .int (nI 0)])) ∧ h1 (dk + 2) = some (.inr (1, [.int (nI 0), .ref G.2.2.2, .int (nI 0)])) ∧ aOff h h1 dk 5)) := by
  refine aMet_of rfl (Nat.le_of_ble_eq_true rfl) ?_
  show aw G mX7_init [] (aRoom 4 4 38) (aEnd G (pQ (fun v h1 n1 => v = none ∧ n1 = dk + 5 ∧ CardsAt h1 dk (dk + 3) (dk + 4) (idL n) 0 ∧ h1 (dk + 1) = some (.inr (1, [.int (nI 0), .ref G.2.2.2, .int (nI 0)])) ∧ h1 (dk + 2) = some (.inr (1, [.int (nI 0), .ref G.2.2.2, .int (nI 0)])) ∧ aOff h h1 dk 5)) 4 38) 0 0 h (dk + 1) 0 [(0, .ref (dk)), (1, .int (nI (n)))] []
  refine aw_aload_n dX7_init_0 rfl ?_
  refine aw_objInit w_770 w_34 w_35 (Nat.le_of_ble_eq_true rfl) (Nat.le_of_ble_eq_true rfl) dX7_init_1 ?_
  refine aw_aload_n dX7_init_4 rfl ?_
  refine aw_newV (ci := 1) (fs := [.int (nI (0)), .null, .int (nI (0))]) rfl w_771 w_702 w_8 (by decide +kernel) (Nat.le_of_ble_eq_true rfl) (Nat.le_of_ble_eq_true rfl) dX7_init_5 (fun h_1 f_1 o_1 => ?_)
  have f_2 := (o_1 dk (by omega)).trans f1
  refine aw_nx (show dk + 1 + 1 = dk + 2 from rfl) ?_
  refine aw_dup dX7_init_8 rfl ?_
  refine aw_callIQ (As := []) (rest := [.ref (dk + 1), .ref (dk)]) (c_Linit G f_1) kJx4a65c_init_da8c8 w_772 rfl rfl (Nat.le_of_ble_eq_true rfl) dX7_init_9 ⟨Nat.le_of_ble_eq_true rfl, Nat.le_of_ble_eq_true rfl⟩ ⟨Nat.le_of_ble_eq_true rfl, Nat.le_of_ble_eq_true rfl⟩ (fun v_1 h_2 n_1 q_1 z_1 => ?_)
  obtain ⟨rfl, rfl, L1, O1⟩ := q_1
  have f_3 := (O1 (dk) (by omega)).trans f_2
  refine aw_putFV (v := .ref (dk + 1)) (ty := (.object "java/util/ArrayList")) (fs' := [.null, .null, .ref (dk + 1), .null, .int (nI (0))]) 2 f_3 rfl rfl (by decide) (by decide +kernel) rfl rfl rfl (Nat.le_of_ble_eq_true rfl) rfl rfl rfl w_777 dX7_init_12 (fun h_3 f_4 o_2 => ?_)
  have f_5 := (o_2 (dk + 1) (by omega)).trans L1
  refine aw_aload_n dX7_init_15 rfl ?_
  refine aw_newV (ci := 1) (fs := [.int (nI (0)), .null, .int (nI (0))]) rfl w_771 w_702 w_8 (by decide +kernel) (Nat.le_of_ble_eq_true rfl) (Nat.le_of_ble_eq_true rfl) dX7_init_16 (fun h_4 f_6 o_3 => ?_)
  have f_7 := (o_3 dk (by omega)).trans f_4
  have f_8 := (o_3 (dk + 1) (by omega)).trans f_5
  refine aw_nx (show dk + 2 + 1 = dk + 3 from rfl) ?_
  refine aw_dup dX7_init_19 rfl ?_
  refine aw_callIQ (As := []) (rest := [.ref (dk + 2), .ref (dk)]) (c_Linit G f_6) kJx4a65c_init_da8c8 w_772 rfl rfl (Nat.le_of_ble_eq_true rfl) dX7_init_20 ⟨Nat.le_of_ble_eq_true rfl, Nat.le_of_ble_eq_true rfl⟩ ⟨Nat.le_of_ble_eq_true rfl, Nat.le_of_ble_eq_true rfl⟩ (fun v_2 h_5 n_2 q_2 z_2 => ?_)
  obtain ⟨rfl, rfl, L2, O2⟩ := q_2
  have f_9 := (O2 (dk) (by omega)).trans f_7
  have f_10 := (O2 (dk + 1) (by omega)).trans f_8
  refine aw_putFV (v := .ref (dk + 2)) (ty := (.object "java/util/ArrayList")) (fs' := [.null, .null, .ref (dk + 1), .ref (dk + 2), .int (nI (0))]) 3 f_9 rfl rfl (by decide) (by decide +kernel) rfl rfl rfl (Nat.le_of_ble_eq_true rfl) rfl rfl rfl w_778 dX7_init_23 (fun h_6 f_11 o_4 => ?_)
  have f_12 := (o_4 (dk + 2) (by omega)).trans L2
  have f_13 := (o_4 (dk + 1) (by omega)).trans f_10
  refine aw_aload_n dX7_init_26 rfl ?_
  refine aw_iload_n dX7_init_27 rfl ?_
  refine aw_newarrIV (by omega) w_56 (Nat.le_of_ble_eq_true rfl) (show 6 + n ≤ 38 by omega) dX7_init_28 (fun h_7 f_14 o_5 => ?_)
  have f_15 := (o_5 dk (by omega)).trans f_11
  have f_16 := (o_5 (dk + 2) (by omega)).trans f_12
  have f_17 := (o_5 (dk + 1) (by omega)).trans f_13
  refine aw_nx (show dk + 3 + 1 = dk + 4 from rfl) ?_
  refine aw_putV (v := .ref (dk + 3)) (ty := (.array .int)) (fs' := [.ref (dk + 3), .null, .ref (dk + 1), .ref (dk + 2), .int (nI (0))]) 0 f_15 rfl rfl (by decide) (by decide +kernel) rfl rfl rfl (Nat.le_of_ble_eq_true rfl) rfl w_773 dX7_init_30 (fun h_8 f_18 o_6 => ?_)
  have f_19 := (o_6 (dk + 3) (by omega)).trans f_14
  have f_20 := (o_6 (dk + 2) (by omega)).trans f_16
  have f_21 := (o_6 (dk + 1) (by omega)).trans f_17
  refine aw_aload_n dX7_init_33 rfl ?_
  refine aw_iload_n dX7_init_34 rfl ?_
  refine aw_newarrZV (by omega) w_792 (Nat.le_of_ble_eq_true rfl) (show 6 + n + n ≤ 38 by omega) dX7_init_35 (fun h_9 f_22 o_7 => ?_)
  have f_23 := (o_7 dk (by omega)).trans f_18
  have f_24 := (o_7 (dk + 3) (by omega)).trans f_19
  have f_25 := (o_7 (dk + 2) (by omega)).trans f_20
  have f_26 := (o_7 (dk + 1) (by omega)).trans f_21
  refine aw_nx (show dk + 4 + 1 = dk + 5 from rfl) ?_
  refine aw_putV (v := .ref (dk + 4)) (ty := (.array .boolean)) (fs' := [.ref (dk + 3), .ref (dk + 4), .ref (dk + 1), .ref (dk + 2), .int (nI (0))]) 1 f_23 rfl rfl (by decide) (by decide +kernel) rfl rfl rfl (Nat.le_of_ble_eq_true rfl) rfl w_775 dX7_init_37 (fun h_10 f_27 o_8 => ?_)
  have f_28 := (o_8 (dk + 4) (by omega)).trans f_22
  have f_29 := (o_8 (dk + 3) (by omega)).trans f_24
  have f_30 := (o_8 (dk + 2) (by omega)).trans f_25
  have f_31 := (o_8 (dk + 1) (by omega)).trans f_26
  refine aw_ic dX7_init_40 ic_0 ?_
  refine aw_istore_n (L' := [(2, .int (nI (0))), (0, .ref (dk)), (1, .int (nI (n)))]) dX7_init_41 (by decide) rfl ?_
  have oA : aOff h h_10 dk 5 := fun q hq => ((((((((((o_8 q (by omega)).trans (o_7 q (by omega))).trans (o_6 q (by omega))).trans (o_5 q (by omega))).trans (o_4 q (by omega))).trans (O2 q (by omega))).trans (o_3 q (by omega))).trans (o_2 q (by omega))).trans (O1 q (by omega))).trans (o_1 q (by omega)))
  have K : ∀ (d : Nat) (i : Nat) (h1 : aH), n - i < d → (i ≤ n) → (h1 dk = some (.inr (6, [.ref (dk + 3), .ref (dk + 4), .ref (dk + 1), .ref (dk + 2), .int (nI 0)]))) → (∃ f : Nat → Int32, h1 (dk + 3) = some (.inl (0, n, .inl f)) ∧ ∀ k, k < i → f k = nI k) → (h1 (dk + 4) = some (.inl (1, n, .inl (fun _ => 0)))) → (h1 (dk + 1) = some (.inr (1, [.int (nI 0), .ref G.2.2.2, .int (nI 0)]))) → (h1 (dk + 2) = some (.inr (1, [.int (nI 0), .ref G.2.2.2, .int (nI 0)]))) → (aOff h h1 dk 5) → aw G mX7_init [] (aRoom 4 4 38) (aEnd G (pQ (fun v h1 n1 => v = none ∧ n1 = dk + 5 ∧ CardsAt h1 dk (dk + 3) (dk + 4) (idL n) 0 ∧ h1 (dk + 1) = some (.inr (1, [.int (nI 0), .ref G.2.2.2, .int (nI 0)])) ∧ h1 (dk + 2) = some (.inr (1, [.int (nI 0), .ref G.2.2.2, .int (nI 0)])) ∧ aOff h h1 dk 5)) 4 38) 4 (6 + n + n) h1 (dk + 5) 42 [(0, .ref (dk)), (1, .int (nI (n))), (2, .int (nI (i)))] [] := by
    intro d
    induction d with
    | zero => intro i h1 hMd; exact absurd hMd (Nat.not_lt_zero _)
    | succ d ih =>
      intro i h1 hMd hi q1 q2 q3 q4 q5 ho
      obtain ⟨f, q2, q2b⟩ := q2
      refine aw_iload_n dX7_init_42 rfl ?_
      refine aw_iload_n dX7_init_43 rfl ?_
      refine aw_icmp_geN (tgt := 60) (by omega) (by omega) dX7_init_44 (by decide) (fun c1 => ?_) (fun c1 => ?_)
      · skip
        have e9 : i = n := by omega
        subst e9
        exact aw_return dX7_init_60 rfl ⟨_, rfl, rfl, rfl, CardsAt.of q1 ⟨f, by rw [idL_len]; exact q2, fun k hk => by rw [idL_len] at hk; rw [idL_at hk, q2b k hk]; congr 1; omega⟩ ⟨_, by rw [idL_len]; exact q3, fun k hk => by rw [idL_len] at hk; rw [idL_at hk, decide_eq_false (by omega)]; rfl⟩, q4, q5, ho⟩ (by omega) (by omega)
      · skip
        refine aw_aload_n dX7_init_47 rfl ?_
        refine aw_get 0 q1 rfl rfl (by decide) w_773 rfl dX7_init_48 ?_
        refine aw_iload_n dX7_init_51 rfl ?_
        refine aw_iload_n dX7_init_52 rfl ?_
        refine aw_iastoreV q2 (by omega) (by omega) dX7_init_53 (fun h_11 f_32 o_9 => ?_)
        have f_33 := (o_9 dk (by omega)).trans q1
        have f_34 := (o_9 (dk + 4) (by omega)).trans q3
        have f_35 := (o_9 (dk + 1) (by omega)).trans q4
        have f_36 := (o_9 (dk + 2) (by omega)).trans q5
        refine aw_iincN (k := 1) (L' := [(2, .int (nI (i + 1))), (0, .ref (dk)), (1, .int (nI (n)))]) dX7_init_54 (by decide) rfl (by decide) rfl ?_
        refine aw_goto (tgt := 42) dX7_init_57 (by decide) ?_
        refine aw_sub (L' := [(0, .ref (dk)), (1, .int (nI (n))), (2, .int (nI (i + 1)))]) [1, 2, 0] rfl ?_
        exact ih (i + 1) h_11 (by omega) (by omega) f_33 ⟨_, f_32, fun k hk => (by unfold upd; by_cases z : k = i; rw [if_pos z, z]; rw [if_neg z]; exact q2b k (by omega))⟩ f_34 f_35 f_36 (fun q hq => (o_9 q (by omega)).trans (ho q hq))
  refine aw_sub (L' := [(0, .ref (dk)), (1, .int (nI (n))), (2, .int (nI (0)))]) [1, 2, 0] rfl ?_
  exact K (n + 1) 0 h_10 (by omega) (Nat.zero_le _) f_27 ⟨_, f_29, fun k hk => absurd hk (Nat.not_lt_zero _)⟩ f_28 f_31 f_30 oA
def putD0 (d : aDk) (s : List Nat) : aDk := (fol d.1 s, (d.1 :: d.2.1).take 40, d.2.2 + 1)
set_option maxHeartbeats 4000000 in
set_option maxRecDepth 20000 in
/-- go(way) -/
theorem c_X7_go (G : aG) {h : aH} {nx i dk n sc : Nat} {own : Nat → Nat} {l : List Nat} {ps : List (List Nat)} (hD : DkAt G own h i dk (l, ps, sc)) (ho : ∀ b, nx ≤ b → own b = 0) (hc : cOk n l) (hn : n ≤ 16) {w : Nat} {s : List Nat} (hW : WayAt h w s) (hs : cOk n s) (hwn : w + 3 ≤ nx) (hwo : ∀ b, w ≤ b → b < w + 3 → own b = 0) (hi4 : i < 4) : aMet G mX7_go 7 4 152 [.ref (dk), .ref (w)] h nx (pQ (fun v h1 n1 => v = none ∧ ∃ own1, Fr own own1 h h1 nx n1 (fun j => 4 * i + 1 ≤ j ∧ j ≤ 4 * i + 3) ∧ DkAt G own1 h1 i dk (putD0 (l, ps, sc) s))) := by
  have hln := hc.1
  have hsn := hs.1
  obtain ⟨e1, e2, e2b, a, b, as, bs, hC, e4, e5, e6, e7, e8⟩ := hD
  simp only at e2 e2b hC e8
  have hdn := own_lt ho (b := dk) (by omega)
  have han := own_lt ho (b := a) (by omega)
  have hbn := own_lt ho (b := b) (by omega)
  have h41 := e8.1
  have h42 := e8.2.1
  have hda : a ≠ dk := fun z => by rw [z] at e4; omega
  have hdb : b ≠ dk := fun z => by rw [z] at e5; omega
  have hdw : w ≠ dk ∧ w + 1 ≠ dk ∧ w + 2 ≠ dk := ⟨fun z => by have := hwo w (by omega) (by omega); rw [z] at this; omega, fun z => by have := hwo (w + 1) (by omega) (by omega); rw [z] at this; omega, fun z => by have := hwo (w + 2) (by omega) (by omega); rw [z] at this; omega⟩
  refine aMet_of rfl (Nat.le_of_ble_eq_true rfl) ?_
  show aw G mX7_go [] (aRoom 7 4 152) (aEnd G (pQ (fun v h1 n1 => v = none ∧ ∃ own1, Fr own own1 h h1 nx n1 (fun j => 4 * i + 1 ≤ j ∧ j ≤ 4 * i + 3) ∧ DkAt G own1 h1 i dk (putD0 (l, ps, sc) s))) 4 152) 0 0 h nx 0 [(0, .ref (dk)), (1, .ref (w))] []
  have hC0 := hC
  have e60 := e6
  have e70 := e7
  obtain ⟨y_1f, y_1g, y_11, y_12, y_13, y_1v⟩ := hC
  refine aw_aload_n dX7_go_0 rfl ?_
  refine aw_callVR (As := []) (rest := []) (c_X7_size G hC0 hc hn) kX7_size w_911 y_11 rfl rfl rfl rfl (Nat.le_of_ble_eq_true rfl) dX7_go_1 ⟨Nat.le_of_ble_eq_true rfl, Nat.le_of_ble_eq_true rfl⟩ ⟨Nat.le_of_ble_eq_true rfl, Nat.le_of_ble_eq_true rfl⟩ ?_
  refine aw_istore_n (L' := [(2, .int (nI (l.length))), (0, .ref (dk)), (1, .ref (w))]) dX7_go_4 (by decide) rfl ?_
  refine aw_aload_n dX7_go_5 rfl ?_
  refine aw_get 2 y_11 rfl rfl (by decide) w_777 rfl dX7_go_6 ?_
  obtain ⟨u_11, u_1m, u_1e, u_12, u_13, u_14⟩ := e60
  obtain ⟨u_21, u_2m, u_2e, u_22, u_23, u_24⟩ := e70
  refine aw_callVR (As := []) (rest := []) (c_Lsize G e6) kJx4a65c_size_8abf5 w_912 u_12 rfl rfl rfl rfl (Nat.le_of_ble_eq_true rfl) dX7_go_9 ⟨Nat.le_of_ble_eq_true rfl, Nat.le_of_ble_eq_true rfl⟩ ⟨Nat.le_of_ble_eq_true rfl, Nat.le_of_ble_eq_true rfl⟩ ?_
  refine aw_bp (v := 40) dX7_go_12 (by decide) ?_
  refine aw_sub (L' := [(0, .ref (dk)), (1, .ref (w)), (2, .int (nI (l.length)))]) [1, 2, 0] rfl ?_
  have J : ∀ (h2 : aH) (as2 bs2 : List Nat), (∀ q, own q ≠ 4 * i + 2 → own q ≠ 4 * i + 3 → h2 q = h q) → LsAt G own h2 (4 * i + 2) (dk + 1) as2 → LsAt G own h2 (4 * i + 3) (dk + 2) bs2 → PaAt own h as2 bs2 (ps.take 39) → aw G mX7_go [] (aRoom 7 4 152) (aEnd G (pQ (fun v h1 n1 => v = none ∧ ∃ own1, Fr own own1 h h1 nx n1 (fun j => 4 * i + 1 ≤ j ∧ j ≤ 4 * i + 3) ∧ DkAt G own1 h1 i dk (putD0 (l, ps, sc) s))) 4 152) 0 0 h2 nx 35 [(0, .ref (dk)), (1, .ref (w)), (2, .int (nI (l.length)))] [] := by
    intro h2 as2 bs2 o2 hA hB hP
    have hm : (ps.take 39).length ≤ 39 := by rw [List.length_take]; omega
    have hal : as2.length ≤ 39 := by rw [hP.1]; exact hm
    have hbl : bs2.length ≤ 39 := by rw [hP.2.1]; exact hm
    have hC2 := hC0.keep (o2 dk (by omega) (by omega)) (o2 a (by omega) (by omega)) (o2 b (by omega) (by omega))
    have hW2 := hW.keep (fun q g1 g2 => o2 q (by rw [hwo q g1 g2]; omega) (by rw [hwo q g1 g2]; omega))
    have hP2 := hP.keep (own1 := own) (h1 := h2) (fun q hq => ⟨o2 q (by omega) (by omega), rfl⟩)
    have hC20 := hC2
    obtain ⟨y_2f, y_2g, y_21, y_22, y_23, y_2v⟩ := hC2
    have hA0 := hA
    obtain ⟨u_31, u_3m, u_3e, u_32, u_33, u_34⟩ := hA0
    refine aw_aload_n dX7_go_35 rfl ?_
    refine aw_get 2 y_21 rfl rfl (by decide) w_777 rfl dX7_go_36 ?_
    refine aw_aload_n dX7_go_39 rfl ?_
    refine aw_get 0 y_21 rfl rfl (by decide) w_773 rfl dX7_go_40 ?_
    refine aw_callVQ (As := [.ref (a)]) (rest := []) (c_Ladd G hA ho (by omega) (fun t ht => (by obtain ⟨p1, p2, p3⟩ := hP2; have p4 := p3 t (by omega); exact ⟨p4.2.2.1.s, by omega, own_lt ho (by omega)⟩)) ⟨hC20.k.s, by omega, han⟩ (by omega)) kJx4a65c_add_9ea2d w_922 u_32 rfl rfl rfl rfl (Nat.le_of_ble_eq_true rfl) dX7_go_43 ⟨Nat.le_of_ble_eq_true rfl, Nat.le_of_ble_eq_true rfl⟩ ⟨Nat.le_of_ble_eq_true rfl, Nat.le_of_ble_eq_true rfl⟩ (fun v_1 h_1 n_1 q_1 z_1 => ?_)
    obtain ⟨rfl, own3, F3, hA3⟩ := q_1
    have ho3 := F3.2.2.1
    have at3 : ∀ q, own q ≠ 0 → own q ≠ 4 * i + 2 → h_1 q = h2 q ∧ own3 q = own q := fun q g1 g2 => F3.at ho g1 g2
    have hC3 := hC20.keep (at3 dk (by omega) (by omega)).1 (at3 a (by omega) (by omega)).1 (at3 b (by omega) (by omega)).1
    have hB3 := hB.keep (own1 := own3) (h1 := h_1) (fun q hq => at3 q (by omega) (by omega))
    have hP3 := hP2.keep (fun q hq => at3 q (by omega) (by omega))
    have hW3 := hW2.keep (fun q g1 g2 => F3.2.2.2.2 q (by omega) (by rw [hwo q g1 g2]; omega))
    have a3 : own3 a = 30 := (at3 a (by omega) (by omega)).2.trans e4
    have b3 : own3 b = 30 := (at3 b (by omega) (by omega)).2.trans e5
    have d3 : own3 dk = 4 * i + 1 := (at3 dk (by omega) (by omega)).2.trans e1
    have hC30 := hC3
    obtain ⟨y_3f, y_3g, y_31, y_32, y_33, y_3v⟩ := hC3
    have hB30 := hB3
    obtain ⟨u_41, u_4m, u_4e, u_42, u_43, u_44⟩ := hB30
    refine aw_pop dX7_go_46 rfl ?_
    refine aw_aload_n dX7_go_47 rfl ?_
    refine aw_get 3 y_31 rfl rfl (by decide) w_778 rfl dX7_go_48 ?_
    refine aw_aload_n dX7_go_51 rfl ?_
    refine aw_get 1 y_31 rfl rfl (by decide) w_775 rfl dX7_go_52 ?_
    refine aw_callVQ (As := [.ref (b)]) (rest := []) (c_Ladd G hB3 ho3 (by omega) (fun t ht => (by obtain ⟨p1, p2, p3⟩ := hP3; have p4 := p3 t (by omega); exact ⟨p4.2.2.2.s, by omega, own_lt ho3 (by omega)⟩)) ⟨hC30.u.s, by omega, own_lt ho3 (by omega)⟩ (by omega)) kJx4a65c_add_9ea2d w_922 u_42 rfl rfl rfl rfl (Nat.le_of_ble_eq_true rfl) dX7_go_55 ⟨Nat.le_of_ble_eq_true rfl, Nat.le_of_ble_eq_true rfl⟩ ⟨Nat.le_of_ble_eq_true rfl, Nat.le_of_ble_eq_true rfl⟩ (fun v_2 h_2 n_2 q_2 z_2 => ?_)
    obtain ⟨rfl, own4, F4, hB4⟩ := q_2
    have ho4 := F4.2.2.1
    have at4 : ∀ q, own3 q ≠ 0 → own3 q ≠ 4 * i + 3 → h_2 q = h_1 q ∧ own4 q = own3 q := fun q g1 g2 => F4.at ho3 g1 g2
    have hC4 := hC30.keep (at4 dk (by omega) (by omega)).1 (at4 a (by omega) (by omega)).1 (at4 b (by omega) (by omega)).1
    have hA4 := hA3.keep (own1 := own4) (h1 := h_2) (fun q hq => at4 q (by omega) (by omega))
    have hP4 := hP3.keep (fun q hq => at4 q (by omega) (by omega))
    have hwo3 : ∀ q, w ≤ q → q < w + 3 → own3 q = 0 := fun q g1 g2 => (F3.2.1 q (by omega)).trans (hwo q g1 g2)
    have hn3 := F3.1
    have hn4 := F4.1
    have hW4 := hW3.keep (fun q g1 g2 => F4.2.2.2.2 q (by omega) (by rw [hwo3 q g1 g2]; omega))
    have a4 : own4 a = 30 := (at4 a (by omega) (by omega)).2.trans a3
    have b4 : own4 b = 30 := (at4 b (by omega) (by omega)).2.trans b3
    have d4 : own4 dk = 4 * i + 1 := (at4 dk (by omega) (by omega)).2.trans d3
    have FF : Fr own own4 h h_2 nx n_2 (fun j => 4 * i + 1 ≤ j ∧ j ≤ 4 * i + 3) := by
      have f2 : Fr own own h h2 nx nx (fun j => 4 * i + 1 ≤ j ∧ j ≤ 4 * i + 3) := ⟨Nat.le_refl _, fun _ _ => rfl, ho, fun q hq => Or.inl (ho q hq), fun q hq hk => o2 q (fun z => hk (by show 4 * i + 1 ≤ own q ∧ _; omega)) (fun z => hk (by show 4 * i + 1 ≤ own q ∧ _; omega))⟩
      exact (f2.tr (F3.mono (fun q hq => by omega))).tr (F4.mono (fun q hq => by omega))
    have hC40 := hC4
    obtain ⟨y_4f, y_4g, y_41, y_42, y_43, y_4v⟩ := hC4
    have hW40 := hW4
    obtain ⟨y_5f, y_5g, y_51, y_52, y_53, y_5v⟩ := hW40
    refine aw_pop dX7_go_58 rfl ?_
    refine aw_iload_n dX7_go_59 rfl ?_
    refine aw_newarrIV (by omega) w_56 (Nat.le_of_ble_eq_true rfl) (show 120 + l.length ≤ 152 by omega) dX7_go_60 (fun h_3 f_1 o_1 => ?_)
    have f_2 := (o_1 dk (by omega)).trans y_41
    have f_3 := (o_1 a (by omega)).trans y_42
    have f_4 := (o_1 b (by omega)).trans y_43
    have f_5 := (o_1 w (by omega)).trans y_51
    have f_6 := (o_1 (w + 1) (by omega)).trans y_52
    have f_7 := (o_1 (w + 2) (by omega)).trans y_53
    refine aw_astore_n (L' := [(3, .ref (n_2)), (0, .ref (dk)), (1, .ref (w)), (2, .int (nI (l.length)))]) dX7_go_62 (by decide) rfl ?_
    refine aw_iload_n dX7_go_63 rfl ?_
    refine aw_newarrZV (by omega) w_792 (Nat.le_of_ble_eq_true rfl) (show 120 + l.length + l.length ≤ 152 by omega) dX7_go_64 (fun h_4 f_8 o_2 => ?_)
    have f_9 := (o_2 n_2 (by omega)).trans f_1
    have f_10 := (o_2 dk (by omega)).trans f_2
    have f_11 := (o_2 a (by omega)).trans f_3
    have f_12 := (o_2 b (by omega)).trans f_4
    have f_13 := (o_2 w (by omega)).trans f_5
    have f_14 := (o_2 (w + 1) (by omega)).trans f_6
    have f_15 := (o_2 (w + 2) (by omega)).trans f_7
    refine aw_nx (show n_2 + 1 + 1 = n_2 + 2 from rfl) ?_
    refine aw_astore (L' := [(4, .ref (n_2 + 1)), (3, .ref (n_2)), (0, .ref (dk)), (1, .ref (w)), (2, .int (nI (l.length)))]) dX7_go_66 (by decide) rfl ?_
    refine aw_ic dX7_go_68 ic_0 ?_
    refine aw_istore (L' := [(5, .int (nI (0))), (4, .ref (n_2 + 1)), (3, .ref (n_2)), (0, .ref (dk)), (1, .ref (w)), (2, .int (nI (l.length)))]) dX7_go_69 (by decide) rfl ?_
    refine aw_widen (cells' := 4) (slots' := 152) (by omega) (by omega) ?_
    have K : ∀ (d : Nat) (k : Nat) (h1 : aH), l.length - k < d → (k ≤ l.length) → (∃ f g : Nat → Int32, h1 n_2 = some (.inl (0, l.length, .inl f)) ∧ h1 (n_2 + 1) = some (.inl (1, l.length, .inl g)) ∧ ∀ t, t < k → f t = nI ((fol l s).getD t 0 / 2) ∧ g t = bI (decide ((fol l s).getD t 0 % 2 = 1))) → (∀ q, q ≠ n_2 → q ≠ n_2 + 1 → h1 q = h_2 q) → aw G mX7_go [] (aRoom 7 4 152) (aEnd G (pQ (fun v h1 n1 => v = none ∧ ∃ own1, Fr own own1 h h1 nx n1 (fun j => 4 * i + 1 ≤ j ∧ j ≤ 4 * i + 3) ∧ DkAt G own1 h1 i dk (putD0 (l, ps, sc) s))) 4 152) 4 152 h1 (n_2 + 1 + 1) 71 [(0, .ref (dk)), (1, .ref (w)), (2, .int (nI (l.length))), (3, .ref (n_2)), (4, .ref (n_2 + 1)), (5, .int (nI (k)))] [] := by
      intro d
      induction d with
      | zero => intro k h1 hMd; exact absurd hMd (Nat.not_lt_zero _)
      | succ d ih =>
        intro k h1 hMd hk hf oq
        obtain ⟨f, g, r1, r2, r3⟩ := hf
        have hCk := hC40.keep (oq dk (by omega) (by omega)) (oq a (by omega) (by omega)) (oq b (by omega) (by omega))
        have hWk := hW4.keep (fun q g1 g2 => oq q (by omega) (by omega))
        have hCk0 := hCk
        obtain ⟨y_6f, y_6g, y_61, y_62, y_63, y_6v⟩ := hCk
        obtain ⟨y_7f, y_7g, y_71, y_72, y_73, y_7v⟩ := hWk
        refine aw_iload dX7_go_71 rfl ?_
        refine aw_iload_n dX7_go_73 rfl ?_
        refine aw_icmp_geN (tgt := 131) (by omega) (by omega) dX7_go_74 (by decide) (fun c1 => ?_) (fun c1 => ?_)
        · skip
          have ek : k = l.length := by omega
          refine aw_aload_n dX7_go_131 rfl ?_
          refine aw_aload_n dX7_go_132 rfl ?_
          refine aw_putV (v := .ref (n_2)) (ty := (.array .int)) (fs' := [.ref (n_2), .ref (b), .ref (dk + 1), .ref (dk + 2), .int (nI (sc))]) 0 y_61 rfl rfl (by decide) (by decide +kernel) rfl rfl rfl (Nat.le_of_ble_eq_true rfl) rfl w_773 dX7_go_133 (fun h_5 f_16 o_3 => ?_)
          have f_17 := (o_3 a (by omega)).trans y_62
          have f_18 := (o_3 b (by omega)).trans y_63
          have f_19 := (o_3 w (by omega)).trans y_71
          have f_20 := (o_3 (w + 1) (by omega)).trans y_72
          have f_21 := (o_3 (w + 2) (by omega)).trans y_73
          have f_22 := (o_3 n_2 (by omega)).trans r1
          have f_23 := (o_3 (n_2 + 1) (by omega)).trans r2
          refine aw_aload_n dX7_go_136 rfl ?_
          refine aw_aload dX7_go_137 rfl ?_
          refine aw_putV (v := .ref (n_2 + 1)) (ty := (.array .boolean)) (fs' := [.ref (n_2), .ref (n_2 + 1), .ref (dk + 1), .ref (dk + 2), .int (nI (sc))]) 1 f_16 rfl rfl (by decide) (by decide +kernel) rfl rfl rfl (Nat.le_of_ble_eq_true rfl) rfl w_775 dX7_go_139 (fun h_6 f_24 o_4 => ?_)
          have f_25 := (o_4 a (by omega)).trans f_17
          have f_26 := (o_4 b (by omega)).trans f_18
          have f_27 := (o_4 w (by omega)).trans f_19
          have f_28 := (o_4 (w + 1) (by omega)).trans f_20
          have f_29 := (o_4 (w + 2) (by omega)).trans f_21
          have f_30 := (o_4 n_2 (by omega)).trans f_22
          have f_31 := (o_4 (n_2 + 1) (by omega)).trans f_23
          refine aw_aload_n dX7_go_142 rfl ?_
          refine aw_dup dX7_go_143 rfl ?_
          refine aw_get 4 f_24 rfl rfl (by decide) w_779 rfl dX7_go_144 ?_
          refine aw_ic dX7_go_147 ic_1 ?_
          refine aw_iaddN dX7_go_148 ?_
          refine aw_putV (v := .int (nI (sc + 1))) (ty := .int) (fs' := [.ref (n_2), .ref (n_2 + 1), .ref (dk + 1), .ref (dk + 2), .int (nI (sc + 1))]) 4 f_24 rfl rfl (by decide) (by decide +kernel) rfl rfl rfl (Nat.le_of_ble_eq_true rfl) rfl w_779 dX7_go_149 (fun h_7 f_32 o_5 => ?_)
          have f_33 := (o_5 a (by omega)).trans f_25
          have f_34 := (o_5 b (by omega)).trans f_26
          have f_35 := (o_5 w (by omega)).trans f_27
          have f_36 := (o_5 (w + 1) (by omega)).trans f_28
          have f_37 := (o_5 (w + 2) (by omega)).trans f_29
          have f_38 := (o_5 n_2 (by omega)).trans f_30
          have f_39 := (o_5 (n_2 + 1) (by omega)).trans f_31
          obtain ⟨own5, h5⟩ : ∃ own5 : Nat → Nat, own5 = (fun q => if q = n_2 ∨ q = n_2 + 1 then 30 else own4 q) := ⟨_, rfl⟩
          have h5a : ∀ q, q < n_2 → own5 q = own4 q := fun q hq => by rw [h5]; exact if_neg (by omega)
          have h5b : ∀ q, q = n_2 ∨ q = n_2 + 1 → own5 q = 30 := fun q hq => by rw [h5]; exact if_pos hq
          have h5c : ∀ q, n_2 + 1 + 1 ≤ q → own5 q = 0 := fun q hq => by rw [h5]; show (if _ then 30 else own4 q) = 0; rw [if_neg (by omega)]; exact ho4 q (by omega)
          have oz : ∀ q, q ≠ dk → q ≠ n_2 → q ≠ n_2 + 1 → h_7 q = h_2 q := fun q g1 g2 g3 => ((((o_5 q (by omega)).trans (o_4 q (by omega))).trans (o_3 q (by omega)))).trans (oq q g2 g3)
          have F5 : Fr own4 own5 h_2 h_7 n_2 (n_2 + 1 + 1) (fun j => 4 * i + 1 ≤ j ∧ j ≤ 4 * i + 3) := ⟨by omega, h5a, h5c, fun q hq => (by by_cases y : q = n_2 ∨ q = n_2 + 1; exact Or.inr (Or.inl (h5b q y)); exact Or.inl (h5c q (by omega))), fun q hq hk => oz q (fun y => hk (by rw [y, d4]; omega)) (by omega) (by omega)⟩
          have at5 : ∀ q, own4 q ≠ 0 → own4 q ≠ 4 * i + 1 → h_7 q = h_2 q ∧ own5 q = own4 q := fun q g1 g2 => by have hq := own_lt ho4 g1; exact ⟨oz q (fun y => g2 (by rw [y]; exact d4)) (by omega) (by omega), h5a q hq⟩
          have htk : ((l :: ps).take 40) = l :: ps.take 39 := rfl
          have hlt : (ps.take 39).length = min 39 ps.length := List.length_take
          have hNK : KAt h_7 n_2 (fol l s) := ⟨f, by rw [fol_len, hsn, ← hln]; exact f_38, fun t ht => (r3 t (by rw [fol_len] at ht; omega)).1⟩
          have hNU : UAt h_7 (n_2 + 1) (fol l s) := ⟨g, by rw [fol_len, hsn, ← hln]; exact f_39, fun t ht => (r3 t (by rw [fol_len] at ht; omega)).2⟩
          exact aw_return dX7_go_152 rfl ⟨_, rfl, rfl, own5, FF.tr F5, (h5a dk (by omega)).trans d4, by show ((l :: ps).take 40).length ≤ sc + 1; rw [htk, List.length_cons, hlt]; omega, by show ((l :: ps).take 40).length ≤ 40; rw [htk, List.length_cons, hlt]; omega, n_2, n_2 + 1, as2 ++ [a], bs2 ++ [b], CardsAt.of f_32 hNK hNU, h5b _ (Or.inl rfl), h5b _ (Or.inr rfl), hA4.keep (fun q hq => at5 q (by omega) (by omega)), hB4.keep (fun q hq => at5 q (by omega) (by omega)), by show PaAt own5 h_7 _ _ ((l :: ps).take 40); rw [htk]; exact (hP4.add a4 b4 hC40.k hC40.u).keep (fun q hq => at5 q (by omega) (by omega))⟩ (Nat.le_of_ble_eq_true rfl) (Nat.le_of_ble_eq_true rfl)
        · skip
          have c1s : k < s.length := by omega
          have hsi := hs.2 k c1s
          have hlj := hc.lt hsi
          refine aw_aload_n dX7_go_77 rfl ?_
          refine aw_iload dX7_go_78 rfl ?_
          refine aw_aload_n dX7_go_80 rfl ?_
          refine aw_get 0 y_61 rfl rfl (by decide) w_773 rfl dX7_go_81 ?_
          refine aw_aload_n dX7_go_84 rfl ?_
          refine aw_getN 0 y_71 rfl rfl (by decide) w_886 rfl dX7_go_85 ?_
          refine aw_iload dX7_go_88 rfl ?_
          refine aw_iaload y_72 (by omega) (by omega) dX7_go_90 ?_
          refine aw_top (show (y_7f k) = (nI (s.getD k 0 / 2)) from (y_7v k c1s).1) ?_
          refine aw_iaload y_62 (by omega) (by omega) dX7_go_91 ?_
          refine aw_top (show (y_6f (s.getD k 0 / 2)) = (nI (l.getD (s.getD k 0 / 2) 0 / 2)) from (y_6v _ (by omega)).1) ?_
          refine aw_iastoreV r1 (by omega) (by omega) dX7_go_92 (fun h_8 f_40 o_6 => ?_)
          have f_41 := (o_6 dk (by omega)).trans y_61
          have f_42 := (o_6 a (by omega)).trans y_62
          have f_43 := (o_6 b (by omega)).trans y_63
          have f_44 := (o_6 w (by omega)).trans y_71
          have f_45 := (o_6 (w + 1) (by omega)).trans y_72
          have f_46 := (o_6 (w + 2) (by omega)).trans y_73
          have f_47 := (o_6 (n_2 + 1) (by omega)).trans r2
          refine aw_aload dX7_go_93 rfl ?_
          refine aw_iload dX7_go_95 rfl ?_
          refine aw_aload_n dX7_go_97 rfl ?_
          refine aw_get 1 f_41 rfl rfl (by decide) w_775 rfl dX7_go_98 ?_
          refine aw_aload_n dX7_go_101 rfl ?_
          refine aw_getN 0 f_44 rfl rfl (by decide) w_886 rfl dX7_go_102 ?_
          refine aw_iload dX7_go_105 rfl ?_
          refine aw_iaload f_45 (by omega) (by omega) dX7_go_107 ?_
          refine aw_top (show (y_7f k) = (nI (s.getD k 0 / 2)) from (y_7v k c1s).1) ?_
          refine aw_zaload f_43 (by omega) (by omega) dX7_go_108 ?_
          refine aw_top (show (y_6g (s.getD k 0 / 2)) = (bI (decide (l.getD (s.getD k 0 / 2) 0 % 2 = 1))) from (y_6v _ (by omega)).2) ?_
          refine aw_aload_n dX7_go_109 rfl ?_
          refine aw_getN 1 f_44 rfl rfl (by decide) w_889 rfl dX7_go_110 ?_
          refine aw_iload dX7_go_113 rfl ?_
          refine aw_zaload f_46 (by omega) (by omega) dX7_go_115 ?_
          refine aw_top (show (y_7g k) = (bI (decide (s.getD k 0 % 2 = 1))) from (y_7v k c1s).2) ?_
          have hbt : ∀ z : Bool, z.toNat < 2 := by decide
          have hb1 := hbt (decide (l.getD (s.getD k 0 / 2) 0 % 2 = 1))
          have hb2 := hbt (decide (s.getD k 0 % 2 = 1))
          have hb : ∀ z1 z2 : Bool, z1.toNat = z2.toNat ↔ z1 = z2 := by decide
          have hu := fol_u (l := l) c1s
          have hh := fol_h (l := l) c1s
          have J2 : aw G mX7_go [] (aRoom 7 4 152) (aEnd G (pQ (fun v h1 n1 => v = none ∧ ∃ own1, Fr own own1 h h1 nx n1 (fun j => 4 * i + 1 ≤ j ∧ j ≤ 4 * i + 3) ∧ DkAt G own1 h1 i dk (putD0 (l, ps, sc) s))) 4 152) 4 152 h_8 (n_2 + 1 + 1) 124 [(0, .ref (dk)), (1, .ref (w)), (2, .int (nI (l.length))), (3, .ref (n_2)), (4, .ref (n_2 + 1)), (5, .int (nI (k)))] [.int (bI (decide ((fol l s).getD k 0 % 2 = 1))), .int (nI k), .ref (n_2 + 1)] := by
            refine aw_zastoreV f_47 (by omega) (by omega) (bI_nar _) dX7_go_124 (fun h_9 f_48 o_7 => ?_)
            have f_49 := (o_7 n_2 (by omega)).trans f_40
            have f_50 := (o_7 dk (by omega)).trans f_41
            have f_51 := (o_7 a (by omega)).trans f_42
            have f_52 := (o_7 b (by omega)).trans f_43
            have f_53 := (o_7 w (by omega)).trans f_44
            have f_54 := (o_7 (w + 1) (by omega)).trans f_45
            have f_55 := (o_7 (w + 2) (by omega)).trans f_46
            refine aw_iincN (k := 1) (L' := [(5, .int (nI (k + 1))), (0, .ref (dk)), (1, .ref (w)), (2, .int (nI (l.length))), (3, .ref (n_2)), (4, .ref (n_2 + 1))]) dX7_go_125 (by decide) rfl (by decide) rfl ?_
            refine aw_goto (tgt := 71) dX7_go_128 (by decide) ?_
            refine aw_sub (L' := [(0, .ref (dk)), (1, .ref (w)), (2, .int (nI (l.length))), (3, .ref (n_2)), (4, .ref (n_2 + 1)), (5, .int (nI (k + 1)))]) [1, 2, 3, 4, 5, 0] rfl ?_
            refine ih (k + 1) h_9 (by omega) (by omega) ⟨_, _, f_49, f_48, fun t ht => ?_⟩ (fun q g1 g2 => (((o_7 q (by omega)).trans (o_6 q (by omega)))).trans (oq q g1 g2))
            unfold upd
            by_cases z : t = k
            · rw [if_pos z, if_pos z, z, hh]; exact ⟨rfl, rfl⟩
            · rw [if_neg z, if_neg z]; exact r3 t (by omega)
          refine aw_icmp_eqN (tgt := 123) (by omega) (by omega) dX7_go_116 (by decide) (fun c2 => ?_) (fun c2 => ?_)
          · skip
            have c3 := (hb _ _).mp c2
            refine aw_ic dX7_go_123 ic_0 ?_
            rw [hu, c3, bne_self_eq_false] at J2
            exact J2
          · skip
            have c3 : ¬ decide (l.getD (s.getD k 0 / 2) 0 % 2 = 1) = decide (s.getD k 0 % 2 = 1) := fun z => c2 ((hb _ _).mpr z)
            refine aw_ic dX7_go_119 ic_1 ?_
            refine aw_goto (tgt := 124) dX7_go_120 (by decide) ?_
            rw [hu, bne_iff_ne.mpr c3] at J2
            exact J2
    refine aw_sub (L' := [(0, .ref (dk)), (1, .ref (w)), (2, .int (nI (l.length))), (3, .ref (n_2)), (4, .ref (n_2 + 1)), (5, .int (nI (0)))]) [3, 4, 5, 2, 1, 0] rfl ?_
    exact K (l.length + 1) 0 h_4 (by omega) (Nat.zero_le _) ⟨_, _, f_9, f_8, fun t ht => absurd ht (Nat.not_lt_zero _)⟩ (fun q g1 g2 => (o_2 q (by omega)).trans (o_1 q (by omega)))
  refine aw_icmp_neN (tgt := 35) (by omega) (by omega) dX7_go_14 (by decide) (fun c1 => ?_) (fun c1 => ?_)
  · skip
    exact J h as bs (fun _ _ _ => rfl) e6 e7 (by rw [List.take_of_length_le (by have := e8.1; omega)]; exact e8)
  · skip
    have h40 : ps.length = 40 := by have := e8.1; omega
    refine aw_aload_n dX7_go_17 rfl ?_
    refine aw_get 2 y_11 rfl rfl (by decide) w_777 rfl dX7_go_18 ?_
    refine aw_ic dX7_go_21 ic_0 ?_
    refine aw_callVQ (As := [.int (nI (0))]) (rest := []) (c_Lremove G e6 (i := 0) (by omega) (fun t ht => (by obtain ⟨p1, p2, p3⟩ := e8; have p4 := p3 t (by omega); exact ⟨p4.2.2.1.s, by omega⟩)) (by omega)) kJx4a65c_remove_915e3 w_913 u_12 rfl rfl rfl rfl (Nat.le_of_ble_eq_true rfl) dX7_go_22 ⟨Nat.le_of_ble_eq_true rfl, Nat.le_of_ble_eq_true rfl⟩ ⟨Nat.le_of_ble_eq_true rfl, Nat.le_of_ble_eq_true rfl⟩ (fun v_3 h_10 n_3 q_3 z_3 => ?_)
    obtain ⟨rfl, rfl, hA2, oA2⟩ := q_3
    have hC5 := hC0.keep (oA2 dk (by omega)) (oA2 a (by omega)) (oA2 b (by omega))
    obtain ⟨y_8f, y_8g, y_81, y_82, y_83, y_8v⟩ := hC5
    have hB5 := e7.keep (own1 := own) (h1 := h_10) (fun q hq => ⟨oA2 q (by omega), rfl⟩)
    have hB50 := hB5
    obtain ⟨u_51, u_5m, u_5e, u_52, u_53, u_54⟩ := hB50
    refine aw_pop dX7_go_25 rfl ?_
    refine aw_aload_n dX7_go_26 rfl ?_
    refine aw_get 3 y_81 rfl rfl (by decide) w_778 rfl dX7_go_27 ?_
    refine aw_ic dX7_go_30 ic_0 ?_
    refine aw_callVQ (As := [.int (nI (0))]) (rest := []) (c_Lremove G hB5 (i := 0) (by omega) (fun t ht => (by obtain ⟨p1, p2, p3⟩ := e8; have p4 := p3 t (by omega); exact ⟨p4.2.2.2.s.keep (oA2 _ (by omega)), by omega⟩)) (by omega)) kJx4a65c_remove_915e3 w_913 u_52 rfl rfl rfl rfl (Nat.le_of_ble_eq_true rfl) dX7_go_31 ⟨Nat.le_of_ble_eq_true rfl, Nat.le_of_ble_eq_true rfl⟩ ⟨Nat.le_of_ble_eq_true rfl, Nat.le_of_ble_eq_true rfl⟩ (fun v_4 h_11 n_4 q_4 z_4 => ?_)
    obtain ⟨rfl, rfl, hB6, oB6⟩ := q_4
    refine aw_pop dX7_go_34 rfl ?_
    exact J h_11 (as.eraseIdx 0) (bs.eraseIdx 0) (fun q g1 g2 => (oB6 q g2).trans (oA2 q g1)) (hA2.keep (fun q hq => ⟨oB6 q (by omega), rfl⟩)) hB6 (e8.drop h40)
set_option maxHeartbeats 4000000 in
set_option maxRecDepth 20000 in
/-- back() -/
theorem c_X7_back (G : aG) {h : aH} {nx i dk sc : Nat} {own : Nat → Nat} {l : List Nat} {ps : List (List Nat)} (hD : DkAt G own h i dk (l, ps, sc)) (hsc : sc < 2 ^ 31) (hi4 : i < 4) : aMet G mX7_back 3 0 0 [.ref (dk)] h nx (pQ (fun v h1 n1 => n1 = nx ∧ v = some (.int (bI (decide (ps ≠ [])))) ∧ ((ps = [] ∧ h1 = h) ∨ (ps ≠ [] ∧ DkAt G own h1 i dk (backD (l, ps, sc)) ∧ ∀ q, ¬ (4 * i + 1 ≤ own q ∧ own q ≤ 4 * i + 3) → h1 q = h q)))) := by
  obtain ⟨e1, e2, e2b, a, b, as, bs, hC, e4, e5, e6, e7, e8⟩ := hD
  simp only at e2 e2b hC e8
  have hda : a ≠ dk := fun z => by rw [z] at e4; omega
  have hdb : b ≠ dk := fun z => by rw [z] at e5; omega
  refine aMet_of rfl (Nat.le_of_ble_eq_true rfl) ?_
  show aw G mX7_back [] (aRoom 3 0 0) (aEnd G (pQ (fun v h1 n1 => n1 = nx ∧ v = some (.int (bI (decide (ps ≠ [])))) ∧ ((ps = [] ∧ h1 = h) ∨ (ps ≠ [] ∧ DkAt G own h1 i dk (backD (l, ps, sc)) ∧ ∀ q, ¬ (4 * i + 1 ≤ own q ∧ own q ≤ 4 * i + 3) → h1 q = h q)))) 0 0) 0 0 h nx 0 [(0, .ref (dk))] []
  have hC0 := hC
  have e60 := e6
  have e70 := e7
  obtain ⟨y_1f, y_1g, y_11, y_12, y_13, y_1v⟩ := hC
  refine aw_aload_n dX7_back_0 rfl ?_
  refine aw_get 2 y_11 rfl rfl (by decide) w_777 rfl dX7_back_1 ?_
  obtain ⟨u_11, u_1m, u_1e, u_12, u_13, u_14⟩ := e60
  obtain ⟨u_21, u_2m, u_2e, u_22, u_23, u_24⟩ := e70
  refine aw_callVR (As := []) (rest := []) (c_Lsize G e6) kJx4a65c_size_8abf5 w_912 u_12 rfl rfl rfl rfl (Nat.le_of_ble_eq_true rfl) dX7_back_4 ⟨Nat.le_of_ble_eq_true rfl, Nat.le_of_ble_eq_true rfl⟩ ⟨Nat.le_of_ble_eq_true rfl, Nat.le_of_ble_eq_true rfl⟩ ?_
  cases ps with
  | nil =>
    have hal : as.length = 0 := e8.1
    rw [hal]
    refine aw_ic dX7_back_7 ic_1 ?_
    refine aw_isub dX7_back_8 ?_
    refine aw_top (show nI 0 - nI 1 = -1 by decide) ?_
    refine aw_istore_n (L' := [(1, .int (-1)), (0, .ref (dk))]) dX7_back_9 (by decide) rfl ?_
    refine aw_iload_n dX7_back_10 rfl ?_
    refine aw_if_ge (tgt := 16) dX7_back_11 (by decide) (fun c1 => absurd c1 (by decide)) (fun c1 => ?_)
    refine aw_ic dX7_back_14 ic_0 ?_
    refine aw_top (show nI 0 = bI (decide (([] : List (List Nat)) ≠ [])) from rfl) ?_
    exact aw_zreturn dX7_back_15 rfl (bI_nar (decide (([] : List (List Nat)) ≠ []))) ⟨_, rfl, rfl, rfl, Or.inl ⟨rfl, rfl⟩⟩ (Nat.le_of_ble_eq_true rfl) (Nat.le_of_ble_eq_true rfl)
  | cons l2 ps =>
    have hal : as.length = ps.length + 1 := e8.1
    have hbl : bs.length = ps.length + 1 := e8.2.1
    have hpl : ps.length + 1 ≤ sc ∧ ps.length + 1 ≤ 40 := ⟨e2, e2b⟩
    refine aw_ic dX7_back_7 ic_1 ?_
    refine aw_isubN (by omega) dX7_back_8 ?_
    refine aw_istore_n (L' := [(1, .int (nI (as.length - 1))), (0, .ref (dk))]) dX7_back_9 (by decide) rfl ?_
    refine aw_iload_n dX7_back_10 rfl ?_
    refine aw_if_geN (tgt := 16) (by omega) dX7_back_11 (by decide) ?_
    refine aw_aload_n dX7_back_16 rfl ?_
    refine aw_aload_n dX7_back_17 rfl ?_
    refine aw_get 2 y_11 rfl rfl (by decide) w_777 rfl dX7_back_18 ?_
    refine aw_iload_n dX7_back_21 rfl ?_
    obtain ⟨t1, t2, t3, t4⟩ := e8.2.2 ps.length (by simp)
    rw [show (l2 :: ps).length - 1 - ps.length = 0 by simp] at t3 t4
    have t3 : KAt h (as.getD ps.length 0) l2 := t3
    have t4 : UAt h (bs.getD ps.length 0) l2 := t4
    have hix : as.length - 1 = ps.length := by omega
    rw [hix]
    refine aw_callVQ (As := [.int (nI (ps.length))]) (rest := [.ref (dk)]) (c_Lremove G e6 (i := ps.length) (by omega) (fun t ht => (by obtain ⟨p1, p2, p3⟩ := e8; have p4 := p3 t (by simp only [List.length_cons]; omega); exact ⟨p4.2.2.1.s, by omega⟩)) (by omega)) kJx4a65c_remove_915e3 w_913 u_12 rfl rfl rfl rfl (Nat.le_of_ble_eq_true rfl) dX7_back_22 ⟨Nat.le_of_ble_eq_true rfl, Nat.le_of_ble_eq_true rfl⟩ ⟨Nat.le_of_ble_eq_true rfl, Nat.le_of_ble_eq_true rfl⟩ (fun v_1 h_1 n_1 q_1 z_1 => ?_)
    obtain ⟨rfl, rfl, hA2, oA2⟩ := q_1
    have t3b := t3.keep (oA2 _ (by omega))
    obtain ⟨kf, k1, k2⟩ := t3b
    refine aw_castI k1 w_931 dX7_back_25 ?_
    have hC5 := hC0.keep (oA2 dk (by omega)) (oA2 a (by omega)) (oA2 b (by omega))
    obtain ⟨y_2f, y_2g, y_21, y_22, y_23, y_2v⟩ := hC5
    refine aw_putV (v := .ref (as.getD ps.length 0)) (ty := (.array .int)) (fs' := [.ref (as.getD ps.length 0), .ref (b), .ref (dk + 1), .ref (dk + 2), .int (nI (sc))]) 0 y_21 rfl rfl (by decide) (by decide +kernel) rfl rfl rfl (Nat.le_of_ble_eq_true rfl) rfl w_773 dX7_back_28 (fun h_2 f_1 o_1 => ?_)
    have f_2 := (o_1 a (by omega)).trans y_22
    have f_3 := (o_1 b (by omega)).trans y_23
    have hB5 := e7.keep (own1 := own) (h1 := h_2) (fun q hq => ⟨(o_1 q (fun z => by rw [z] at hq; omega)).trans (oA2 q (by omega)), rfl⟩)
    have hB50 := hB5
    refine aw_aload_n dX7_back_31 rfl ?_
    refine aw_aload_n dX7_back_32 rfl ?_
    refine aw_get 3 f_1 rfl rfl (by decide) w_778 rfl dX7_back_33 ?_
    refine aw_iload_n dX7_back_36 rfl ?_
    obtain ⟨u_31, u_3m, u_3e, u_32, u_33, u_34⟩ := hB50
    refine aw_callVQ (As := [.int (nI (ps.length))]) (rest := [.ref (dk)]) (c_Lremove G hB5 (i := ps.length) (by omega) (fun t ht => (by obtain ⟨p1, p2, p3⟩ := e8; have p4 := p3 t (by simp only [List.length_cons]; omega); exact ⟨p4.2.2.2.s.keep ((o_1 _ (fun z => by rw [z] at p4; omega)).trans (oA2 _ (by omega))), by omega⟩)) (by omega)) kJx4a65c_remove_915e3 w_913 u_32 rfl rfl rfl rfl (Nat.le_of_ble_eq_true rfl) dX7_back_37 ⟨Nat.le_of_ble_eq_true rfl, Nat.le_of_ble_eq_true rfl⟩ ⟨Nat.le_of_ble_eq_true rfl, Nat.le_of_ble_eq_true rfl⟩ (fun v_2 h_3 n_2 q_2 z_2 => ?_)
    obtain ⟨rfl, rfl, hB6, oB6⟩ := q_2
    have t4b := t4.keep ((oB6 _ (by omega)).trans ((o_1 _ (fun z => by rw [z] at t2; omega)).trans (oA2 _ (by omega))))
    obtain ⟨gf, g1, g2⟩ := t4b
    refine aw_castZ g1 w_932 dX7_back_40 ?_
    have d6 := (oB6 dk (by omega)).trans f_1
    refine aw_putV (v := .ref (bs.getD ps.length 0)) (ty := (.array .boolean)) (fs' := [.ref (as.getD ps.length 0), .ref (bs.getD ps.length 0), .ref (dk + 1), .ref (dk + 2), .int (nI (sc))]) 1 d6 rfl rfl (by decide) (by decide +kernel) rfl rfl rfl (Nat.le_of_ble_eq_true rfl) rfl w_775 dX7_back_43 (fun h_4 f_4 o_2 => ?_)
    refine aw_aload_n dX7_back_46 rfl ?_
    refine aw_dup dX7_back_47 rfl ?_
    refine aw_get 4 f_4 rfl rfl (by decide) w_779 rfl dX7_back_48 ?_
    refine aw_ic dX7_back_51 ic_1 ?_
    refine aw_isubN (by omega) dX7_back_52 ?_
    refine aw_putV (v := .int (nI (sc - 1))) (ty := .int) (fs' := [.ref (as.getD ps.length 0), .ref (bs.getD ps.length 0), .ref (dk + 1), .ref (dk + 2), .int (nI (sc - 1))]) 4 f_4 rfl rfl (by decide) (by decide +kernel) rfl rfl rfl (Nat.le_of_ble_eq_true rfl) rfl w_779 dX7_back_53 (fun h_5 f_5 o_3 => ?_)
    refine aw_ic dX7_back_56 ic_1 ?_
    refine aw_top (show nI 1 = bI (decide ((l2 :: ps) ≠ [])) from rfl) ?_
    have oz : ∀ q, q ≠ dk → h_5 q = h_3 q := fun q g => (o_3 q g).trans (o_2 q g)
    have ok : ∀ q, own q ≠ 4 * i + 1 → own q ≠ 4 * i + 3 → own q ≠ 4 * i + 2 → h_5 q = h q := fun q g1 g2 g3 => (oz q (fun z => g1 (by rw [z]; exact e1))).trans ((oB6 q g2).trans ((o_1 q (fun z => g1 (by rw [z]; exact e1))).trans (oA2 q g3)))
    have hA6 := hA2.keep (own1 := own) (h1 := h_5) (fun q hq => ⟨(oz q (fun z => by rw [z] at hq; omega)).trans ((oB6 q (by omega)).trans (o_1 q (fun z => by rw [z] at hq; omega))), rfl⟩)
    have hB7 := hB6.keep (own1 := own) (h1 := h_5) (fun q hq => ⟨oz q (fun z => by rw [z] at hq; omega), rfl⟩)
    exact aw_zreturn dX7_back_57 rfl (bI_nar (decide ((l2 :: ps) ≠ []))) ⟨_, rfl, rfl, rfl, Or.inr ⟨List.cons_ne_nil _ _, ⟨e1, by show ps.length ≤ sc - 1; omega, by show ps.length ≤ 40; omega, as.getD ps.length 0, bs.getD ps.length 0, _, _, CardsAt.of f_5 (t3.keep (ok _ (by omega) (by omega) (by omega))) (t4.keep (ok _ (by omega) (by omega) (by omega))), t1, t2, hA6, hB7, e8.pop.keep (fun q hq => ⟨ok q (by omega) (by omega) (by omega), rfl⟩)⟩, fun q g => ok q (fun z => g (by omega)) (fun z => g (by omega)) (fun z => g (by omega))⟩⟩ (Nat.le_of_ble_eq_true rfl) (Nat.le_of_ble_eq_true rfl)
