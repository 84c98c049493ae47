set_option maxHeartbeats 4000000 in
set_option maxRecDepth 20000 in
/-- Way(n) -/
theorem c_X8_init (G : aG) {h : aH} {w n : Nat} (f1 : h w = some (.inr (7, [.null, .null]))) (hn : n ≤ 16) : aMet G mX8_init 1 2 32 [.ref (w), .int (nI (n))] h (w + 1) (pQ (fun v h1 n1 => v = none ∧ n1 = w + 3 ∧ WayAt h1 w (idL n) ∧ aOff h h1 w 3)) := by
  refine aMet_of rfl (Nat.le_of_ble_eq_true rfl) ?_
  show aw G mX8_init [] (aRoom 1 2 32) (aEnd G (pQ (fun v h1 n1 => v = none ∧ n1 = w + 3 ∧ WayAt h1 w (idL n) ∧ aOff h h1 w 3)) 2 32) 0 0 h (w + 1) 0 [(0, .ref (w)), (1, .int (nI (n)))] []
  refine aw_aload_n dX8_init_0 rfl ?_
  refine aw_objInit w_884 w_34 w_35 (Nat.le_of_ble_eq_true rfl) (Nat.le_of_ble_eq_true rfl) dX8_init_1 ?_
  refine aw_aload_n dX8_init_4 rfl ?_
  refine aw_iload_n dX8_init_5 rfl ?_
  refine aw_newarrIV (by omega) w_56 (Nat.le_of_ble_eq_true rfl) (show 0 + n ≤ 32 by omega) dX8_init_6 (fun h_1 f_1 o_1 => ?_)
  have f_2 := (o_1 w (by omega)).trans f1
  refine aw_nx (show w + 1 + 1 = w + 2 from rfl) ?_
  refine aw_putFV (v := .ref (w + 1)) (ty := (.array .int)) (fs' := [.ref (w + 1), .null]) 0 f_2 rfl rfl (by decide) (by decide +kernel) rfl rfl rfl (Nat.le_of_ble_eq_true rfl) rfl rfl rfl w_885 dX8_init_8 (fun h_2 f_3 o_2 => ?_)
  have f_4 := (o_2 (w + 1) (by omega)).trans f_1
  refine aw_aload_n dX8_init_11 rfl ?_
  refine aw_iload_n dX8_init_12 rfl ?_
  refine aw_newarrZV (by omega) w_792 (Nat.le_of_ble_eq_true rfl) (show 0 + n + n ≤ 32 by omega) dX8_init_13 (fun h_3 f_5 o_3 => ?_)
  have f_6 := (o_3 w (by omega)).trans f_3
  have f_7 := (o_3 (w + 1) (by omega)).trans f_4
  refine aw_nx (show w + 2 + 1 = w + 3 from rfl) ?_
  refine aw_putFV (v := .ref (w + 2)) (ty := (.array .boolean)) (fs' := [.ref (w + 1), .ref (w + 2)]) 1 f_6 rfl rfl (by decide) (by decide +kernel) rfl rfl rfl (Nat.le_of_ble_eq_true rfl) rfl rfl rfl w_888 dX8_init_15 (fun h_4 f_8 o_4 => ?_)
  have f_9 := (o_4 (w + 2) (by omega)).trans f_5
  have f_10 := (o_4 (w + 1) (by omega)).trans f_7
  refine aw_ic dX8_init_18 ic_0 ?_
  refine aw_istore_n (L' := [(2, .int (nI (0))), (0, .ref (w)), (1, .int (nI (n)))]) dX8_init_19 (by decide) rfl ?_
  have oA : ∀ a, (a < w ∨ w + 3 ≤ a) → h_4 a = h a := fun a ha => ((((o_4 a (by omega)).trans (o_3 a (by omega))).trans (o_2 a (by omega))).trans (o_1 a (by omega)))
  have K : ∀ (d : Nat) (i : Nat) (h1 : aH), n - i < d → (i ≤ n) → (h1 w = some (.inr (7, [.ref (w + 1), .ref (w + 2)]))) → (∃ f : Nat → Int32, h1 (w + 1) = some (.inl (0, n, .inl f)) ∧ ∀ k, k < i → f k = nI k) → (h1 (w + 2) = some (.inl (1, n, .inl (fun _ => 0)))) → (aOff h h1 w 3) → aw G mX8_init [] (aRoom 1 2 32) (aEnd G (pQ (fun v h1 n1 => v = none ∧ n1 = w + 3 ∧ WayAt h1 w (idL n) ∧ aOff h h1 w 3)) 2 32) 2 (0 + n + n) h1 (w + 3) 20 [(0, .ref (w)), (1, .int (nI (n))), (2, .int (nI (i)))] [] := by
    intro d
    induction d with
    | zero => intro i h1 hMd; exact absurd hMd (Nat.not_lt_zero _)
    | succ d ih =>
      intro i h1 hMd hi e1 e2 e3 ho
      obtain ⟨f, e2, e4⟩ := e2
      refine aw_iload_n dX8_init_20 rfl ?_
      refine aw_iload_n dX8_init_21 rfl ?_
      refine aw_icmp_geN (tgt := 38) (by omega) (by omega) dX8_init_22 (by decide) (fun c1 => ?_) (fun c1 => ?_)
      · skip
        have e9 : i = n := by omega
        subst e9
        exact aw_return dX8_init_38 rfl ⟨_, rfl, rfl, rfl, ⟨f, _, e1, by rw [idL_len]; exact e2, by rw [idL_len]; exact e3, fun k hk => (by rw [idL_len] at hk; rw [idL_at hk]; exact ⟨by rw [e4 k hk]; congr 1; omega, by rw [decide_eq_false (by omega)]; rfl⟩)⟩, ho⟩ (by omega) (by omega)
      · skip
        refine aw_aload_n dX8_init_25 rfl ?_
        refine aw_get 0 e1 rfl rfl (by decide) w_885 rfl dX8_init_26 ?_
        refine aw_iload_n dX8_init_29 rfl ?_
        refine aw_iload_n dX8_init_30 rfl ?_
        refine aw_iastoreV e2 (by omega) (by omega) dX8_init_31 (fun h_5 f_11 o_5 => ?_)
        have f_12 := (o_5 w (by omega)).trans e1
        have f_13 := (o_5 (w + 2) (by omega)).trans e3
        refine aw_iincN (k := 1) (L' := [(2, .int (nI (i + 1))), (0, .ref (w)), (1, .int (nI (n)))]) dX8_init_32 (by decide) rfl (by decide) rfl ?_
        refine aw_goto (tgt := 20) dX8_init_35 (by decide) ?_
        refine aw_sub (L' := [(0, .ref (w)), (1, .int (nI (n))), (2, .int (nI (i + 1)))]) [1, 2, 0] rfl ?_
        exact ih (i + 1) h_5 (by omega) (by omega) f_12 ⟨_, f_11, fun k hk => (by unfold upd; by_cases z : k = i; rw [if_pos z, z]; rw [if_neg z]; exact e4 k (by omega))⟩ f_13 (fun a ha => (o_5 a (by omega)).trans (ho a ha))
  refine aw_sub (L' := [(0, .ref (w)), (1, .int (nI (n))), (2, .int (nI (0)))]) [1, 2, 0] rfl ?_
  exact K (n + 1) 0 h_4 (by omega) (Nat.zero_le _) f_8 ⟨_, f_10, fun k hk => absurd hk (Nat.not_lt_zero _)⟩ f_9 oA
set_option maxHeartbeats 4000000 in
set_option maxRecDepth 20000 in
/-- to(x) -/
theorem c_X8_to (G : aG) {h : aH} {nx w n : Nat} {l : List Nat} (hW : WayAt h w l) (hc : cOk n l) (hn : n ≤ 16) {x : Nat} (hx : ∃ j, j < l.length ∧ l.getD j 0 / 2 = x) : aMet G mX8_to 0 0 0 [.ref (w), .int (nI (x))] h nx (pI (nI (ixOf l x)) h nx) := by
  obtain ⟨j, hj, hjx⟩ := hx
  have hxn := hc.2 j hj
  have hln := hc.1
  refine aMet_of rfl (Nat.le_of_ble_eq_true rfl) ?_
  show aw G mX8_to [] (aRoom 0 0 0) (aEnd G (pI (nI (ixOf l x)) h nx) 0 0) 0 0 h nx 0 [(0, .ref (w)), (1, .int (nI (x)))] []
  obtain ⟨y_1f, y_1g, y_11, y_12, y_13, y_1v⟩ := hW
  refine aw_ic dX8_to_0 ic_0 ?_
  refine aw_istore_n (L' := [(2, .int (nI (0))), (0, .ref (w)), (1, .int (nI (x)))]) dX8_to_1 (by decide) rfl ?_
  have K : ∀ (d : Nat) (i : Nat), l.length - i < d → (i < l.length) → (∀ k, k < i → l.getD k 0 / 2 ≠ x) → aw G mX8_to [] (aRoom 0 0 0) (aEnd G (pI (nI (ixOf l x)) h nx) 0 0) 0 0 h nx 2 [(0, .ref (w)), (1, .int (nI (x))), (2, .int (nI (i)))] [] := by
    intro d
    induction d with
    | zero => intro i hMd; exact absurd hMd (Nat.not_lt_zero _)
    | succ d ih =>
      intro i hMd hi ha
      have hci := hc.2 i hi
      refine aw_aload_n dX8_to_2 rfl ?_
      refine aw_get 0 y_11 rfl rfl (by decide) w_885 rfl dX8_to_3 ?_
      refine aw_iload_n dX8_to_6 rfl ?_
      refine aw_iaload y_12 (by omega) (by omega) dX8_to_7 ?_
      refine aw_top (show (y_1f i) = (nI (l.getD i 0 / 2)) from (y_1v i hi).1) ?_
      refine aw_iload_n dX8_to_8 rfl ?_
      refine aw_icmp_eqN (tgt := 18) (by omega) (by omega) dX8_to_9 (by decide) (fun c2 => ?_) (fun c2 => ?_)
      · skip
        refine aw_iload_n dX8_to_18 rfl ?_
        exact aw_ireturn dX8_to_19 rfl ⟨r_n (ixOf_eq hi c2 ha).symm, rfl, rfl⟩ (Nat.le_of_ble_eq_true rfl) (Nat.le_of_ble_eq_true rfl)
      · skip
        have hne : i ≠ j := fun z => c2 (by rw [z]; exact hjx)
        have hij : i < j := by rcases Nat.lt_or_gt_of_ne hne with z | z; exact z; exact absurd hjx (ha j z)
        refine aw_iincN (k := 1) (L' := [(2, .int (nI (i + 1))), (0, .ref (w)), (1, .int (nI (x)))]) dX8_to_12 (by decide) rfl (by decide) rfl ?_
        refine aw_goto (tgt := 2) dX8_to_15 (by decide) ?_
        refine aw_sub (L' := [(0, .ref (w)), (1, .int (nI (x))), (2, .int (nI (i + 1)))]) [1, 2, 0] rfl ?_
        exact ih (i + 1) (by omega) (by omega) (fun k hk => by rcases Nat.lt_or_ge k i with q | q; exact ha k q; rw [show k = i by omega]; exact c2)
  refine aw_sub (L' := [(0, .ref (w)), (1, .int (nI (x))), (2, .int (nI (0)))]) [1, 2, 0] rfl ?_
  exact K (l.length + 1) 0 (by omega) (by omega) (fun k hk => absurd hk (Nat.not_lt_zero _))
set_option maxHeartbeats 4000000 in
set_option maxRecDepth 20000 in
/-- isStill() -/
theorem c_X8_isStill (G : aG) {h : aH} {nx w n : Nat} {l : List Nat} (hW : WayAt h w l) (hc : cOk n l) (hn : n ≤ 16)  : aMet G mX8_isStill 0 0 0 [.ref (w)] h nx (pI (bI (decide (stillL l))) h nx) := by
  have hln := hc.1
  refine aMet_of rfl (Nat.le_of_ble_eq_true rfl) ?_
  show aw G mX8_isStill [] (aRoom 0 0 0) (aEnd G (pI (bI (decide (stillL l))) h nx) 0 0) 0 0 h nx 0 [(0, .ref (w))] []
  obtain ⟨y_1f, y_1g, y_11, y_12, y_13, y_1v⟩ := hW
  refine aw_ic dX8_isStill_0 ic_0 ?_
  refine aw_istore_n (L' := [(1, .int (nI (0))), (0, .ref (w))]) dX8_isStill_1 (by decide) rfl ?_
  have K : ∀ (d : Nat) (i : Nat), l.length - i < d → (i ≤ l.length) → (∀ k, k < i → l.getD k 0 = 2 * k) → aw G mX8_isStill [] (aRoom 0 0 0) (aEnd G (pI (bI (decide (stillL l))) h nx) 0 0) 0 0 h nx 2 [(0, .ref (w)), (1, .int (nI (i)))] [] := by
    intro d
    induction d with
    | zero => intro i hMd; exact absurd hMd (Nat.not_lt_zero _)
    | succ d ih =>
      intro i hMd hi ha
      refine aw_iload_n dX8_isStill_2 rfl ?_
      refine aw_aload_n dX8_isStill_3 rfl ?_
      refine aw_get 0 y_11 rfl rfl (by decide) w_885 rfl dX8_isStill_4 ?_
      refine aw_lenI y_12 dX8_isStill_7 ?_
      refine aw_icmp_geN (tgt := 38) (by omega) (by omega) dX8_isStill_8 (by decide) (fun c1 => ?_) (fun c1 => ?_)
      · skip
        refine aw_ic dX8_isStill_38 ic_1 ?_
        exact aw_zreturn dX8_isStill_39 rfl (bI_nar true) ⟨r_t (decide_eq_true (fun k hk => ha k (by omega))), rfl, rfl⟩ (Nat.le_of_ble_eq_true rfl) (Nat.le_of_ble_eq_true rfl)
      · skip
        have hci := hc.2 i c1
        refine aw_aload_n dX8_isStill_11 rfl ?_
        refine aw_get 0 y_11 rfl rfl (by decide) w_885 rfl dX8_isStill_12 ?_
        refine aw_iload_n dX8_isStill_15 rfl ?_
        refine aw_iaload y_12 (by omega) (by omega) dX8_isStill_16 ?_
        refine aw_top (show (y_1f i) = (nI (l.getD i 0 / 2)) from (y_1v i c1).1) ?_
        refine aw_iload_n dX8_isStill_17 rfl ?_
        refine aw_icmp_neN (tgt := 30) (by omega) (by omega) dX8_isStill_18 (by decide) (fun c2 => ?_) (fun c2 => ?_)
        · skip
          refine aw_ic dX8_isStill_30 ic_0 ?_
          exact aw_zreturn dX8_isStill_31 rfl (bI_nar false) ⟨r_f (decide_eq_false (fun q => c2 (by rw [q i c1]; omega))), rfl, rfl⟩ (Nat.le_of_ble_eq_true rfl) (Nat.le_of_ble_eq_true rfl)
        · skip
          refine aw_aload_n dX8_isStill_21 rfl ?_
          refine aw_get 1 y_11 rfl rfl (by decide) w_888 rfl dX8_isStill_22 ?_
          refine aw_iload_n dX8_isStill_25 rfl ?_
          refine aw_zaload y_13 (by omega) (by omega) dX8_isStill_26 ?_
          refine aw_top (show (y_1g i) = (bI (decide (l.getD i 0 % 2 = 1))) from (y_1v i c1).2) ?_
          refine aw_if_eqB (tgt := 32) dX8_isStill_27 (by decide) (fun c3 => ?_) (fun c3 => ?_)
          · skip
            have c4 := of_decide_eq_false c3
            refine aw_iincN (k := 1) (L' := [(1, .int (nI (i + 1))), (0, .ref (w))]) dX8_isStill_32 (by decide) rfl (by decide) rfl ?_
            refine aw_goto (tgt := 2) dX8_isStill_35 (by decide) ?_
            refine aw_sub (L' := [(0, .ref (w)), (1, .int (nI (i + 1)))]) [1, 0] rfl ?_
            exact ih (i + 1) (by omega) (by omega) (fun k hk => by rcases Nat.lt_or_ge k i with q | q; exact ha k q; rw [show k = i by omega]; omega)
          · skip
            have c4 := of_decide_eq_true c3
            refine aw_ic dX8_isStill_30 ic_0 ?_
            exact aw_zreturn dX8_isStill_31 rfl (bI_nar false) ⟨r_f (decide_eq_false (fun q => by have := q i c1; omega)), rfl, rfl⟩ (Nat.le_of_ble_eq_true rfl) (Nat.le_of_ble_eq_true rfl)
  refine aw_sub (L' := [(0, .ref (w)), (1, .int (nI (0)))]) [1, 0] rfl ?_
  exact K (l.length + 1) 0 (by omega) (Nat.zero_le _) (fun k hk => absurd hk (Nat.not_lt_zero _))
