set_option maxHeartbeats 4000000 in
set_option maxRecDepth 20000 in
/-- leastMultiple(a, b) -/
theorem c_X0_leastMultiple (G : aG) {h : aH} {nx a b : Nat} (ha : 0 < a) (hb : 0 < b) (ha2 : a ≤ 1441440) (hb2 : b ≤ 32) : aMet G mX0_leastMultiple 0 0 0 [.int (nI (a)), .int (nI (b))] h nx (pI (nI (Nat.lcm a b)) h nx) := by
  refine aMet_of rfl (Nat.le_of_ble_eq_true rfl) ?_
  show aw G mX0_leastMultiple [] (aRoom 0 0 0) (aEnd G (pI (nI (Nat.lcm a b)) h nx) 0 0) 0 0 h nx 0 [(0, .int (nI (a))), (1, .int (nI (b)))] []
  refine aw_ic dX0_leastMultiple_0 ic_1 ?_
  refine aw_istore_n (L' := [(2, .int (nI (1))), (0, .int (nI (a))), (1, .int (nI (b)))]) dX0_leastMultiple_1 (by decide) rfl ?_
  have K : ∀ (d : Nat) (t : Nat), b - t < d → (1 ≤ t ∧ t ≤ b) → (∀ s, 1 ≤ s → s < t → ¬ (a * s) % b = 0) → aw G mX0_leastMultiple [] (aRoom 0 0 0) (aEnd G (pI (nI (Nat.lcm a b)) h nx) 0 0) 0 0 h nx 2 [(0, .int (nI (a))), (1, .int (nI (b))), (2, .int (nI (t)))] [] := by
    intro d
    induction d with
    | zero => intro t hMd; exact absurd hMd (Nat.not_lt_zero _)
    | succ d ih =>
      intro t hMd ht hm
      have hmul : a * t ≤ 1441440 * 32 := Nat.mul_le_mul ha2 (by omega)
      refine aw_iload_n dX0_leastMultiple_2 rfl ?_
      refine aw_iload_n dX0_leastMultiple_3 rfl ?_
      refine aw_icmp_geN (tgt := 25) (by omega) (by omega) dX0_leastMultiple_4 (by decide) (fun c1 => ?_) (fun c1 => ?_)
      · skip
        refine aw_iload_n dX0_leastMultiple_25 rfl ?_
        refine aw_iload_n dX0_leastMultiple_26 rfl ?_
        refine aw_imulN dX0_leastMultiple_27 ?_
        exact aw_ireturn dX0_leastMultiple_28 rfl ⟨r_n (by rw [← show t = b by omega]; exact lcm_least ha (by omega) ht.1 (fun q => absurd q (by omega)) (by omega) (by intro s h1 h2; have := hm s h1 h2; rw [show b = t by omega] at this; exact this)), rfl, rfl⟩ (Nat.le_of_ble_eq_true rfl) (Nat.le_of_ble_eq_true rfl)
      · skip
        refine aw_iload_n dX0_leastMultiple_7 rfl ?_
        refine aw_iload_n dX0_leastMultiple_8 rfl ?_
        refine aw_imulN dX0_leastMultiple_9 ?_
        refine aw_iload_n dX0_leastMultiple_10 rfl ?_
        refine aw_iremN (by omega) (by omega) (by omega) dX0_leastMultiple_11 ?_
        have hml := Nat.mod_lt (a * t) hb
        refine aw_if_neN (tgt := 19) (by omega) dX0_leastMultiple_12 (by decide) (fun c2 => ?_) (fun c2 => ?_)
        · skip
          refine aw_iincN (k := 1) (L' := [(2, .int (nI (t + 1))), (0, .int (nI (a))), (1, .int (nI (b)))]) dX0_leastMultiple_19 (by decide) rfl (by decide) rfl ?_
          refine aw_goto (tgt := 2) dX0_leastMultiple_22 (by decide) ?_
          refine aw_sub (L' := [(0, .int (nI (a))), (1, .int (nI (b))), (2, .int (nI (t + 1)))]) [1, 2, 0] rfl ?_
          exact ih (t + 1) (by omega) (by omega) (fun s h1 h2 => by rcases Nat.lt_or_ge s t with q | q; exact hm s h1 q; rw [show s = t by omega]; omega)
        · skip
          refine aw_iload_n dX0_leastMultiple_15 rfl ?_
          refine aw_iload_n dX0_leastMultiple_16 rfl ?_
          refine aw_imulN dX0_leastMultiple_17 ?_
          exact aw_ireturn dX0_leastMultiple_18 rfl ⟨r_n (lcm_least ha hb ht.1 (fun _ => c2) ht.2 hm), rfl, rfl⟩ (Nat.le_of_ble_eq_true rfl) (Nat.le_of_ble_eq_true rfl)
  refine aw_sub (L' := [(0, .int (nI (a))), (1, .int (nI (b))), (2, .int (nI (1)))]) [1, 2, 0] rfl ?_
  exact K (b + 1) 1 (by omega) (by omega) (fun s h1 h2 => by omega)
set_option maxHeartbeats 4000000 in
set_option maxRecDepth 20000 in
/-- leastOf(row, s) -/
theorem c_X0_leastOf (G : aG) {h : aH} {nx r n s : Nat} {l : List Nat} (hR : RowAt h r l) (hc : cOk n l) (hn : n ≤ 16) (hs : s < n) : aMet G mX0_leastOf 2 0 0 [.ref (r), .int (nI (s))] h nx (pI (nI (lsr l s n)) h nx) := by
  have hR0 := hR
  obtain ⟨f, g, f1, f2, f3, hl, hv⟩ := hR
  have e1 := hc.1
  subst e1
  refine aMet_of rfl (Nat.le_of_ble_eq_true rfl) ?_
  show aw G mX0_leastOf [] (aRoom 2 0 0) (aEnd G (pI (nI (lsr l s l.length)) h nx) 0 0) 0 0 h nx 0 [(0, .ref (r)), (1, .int (nI (s)))] []
  refine aw_iload_n dX0_leastOf_0 rfl ?_
  refine aw_istore_n (L' := [(2, .int (nI (s))), (0, .ref (r)), (1, .int (nI (s)))]) dX0_leastOf_1 (by decide) rfl ?_
  refine aw_iload_n dX0_leastOf_2 rfl ?_
  refine aw_istore_n (L' := [(3, .int (nI (s))), (2, .int (nI (s))), (0, .ref (r)), (1, .int (nI (s)))]) dX0_leastOf_3 (by decide) rfl ?_
  refine aw_ic dX0_leastOf_4 ic_0 ?_
  refine aw_istore (L' := [(4, .int (nI (0))), (3, .int (nI (s))), (2, .int (nI (s))), (0, .ref (r)), (1, .int (nI (s)))]) dX0_leastOf_5 (by decide) rfl ?_
  have K : ∀ (d : Nat) (m p i : Nat), l.length - i < d → (i ≤ l.length) → (m = lsr l s i) → (p = itr l i s) → aw G mX0_leastOf [] (aRoom 2 0 0) (aEnd G (pI (nI (lsr l s l.length)) h nx) 0 0) 0 0 h nx 7 [(0, .ref (r)), (1, .int (nI (s))), (2, .int (nI (m))), (3, .int (nI (p))), (4, .int (nI (i)))] [] := by
    intro d
    induction d with
    | zero => intro m p i hMd; exact absurd hMd (Nat.not_lt_zero _)
    | succ d ih =>
      intro m p i hMd hi hm hp
      have hpl := itr_lt hc hs i
      rw [← hp] at hpl
      have hml := lsr_le (l := l) (s := s) i
      refine aw_iload dX0_leastOf_7 rfl ?_
      refine aw_aload_n dX0_leastOf_9 rfl ?_
      refine aw_callVR (As := []) (rest := [.int (nI (i))]) (c_X3_size G hR0) kX3_size w_273 f1 rfl rfl rfl rfl (Nat.le_of_ble_eq_true rfl) dX0_leastOf_10 ⟨Nat.le_of_ble_eq_true rfl, Nat.le_of_ble_eq_true rfl⟩ ⟨Nat.le_of_ble_eq_true rfl, Nat.le_of_ble_eq_true rfl⟩ ?_
      refine aw_icmp_geN (tgt := 34) (by omega) (by omega) dX0_leastOf_13 (by decide) (fun c1 => ?_) (fun c1 => ?_)
      · skip
        refine aw_iload_n dX0_leastOf_34 rfl ?_
        exact aw_ireturn dX0_leastOf_35 rfl ⟨r_n (by rw [hm, show i = l.length by omega]), rfl, rfl⟩ (Nat.le_of_ble_eq_true rfl) (Nat.le_of_ble_eq_true rfl)
      · skip
        refine aw_aload_n dX0_leastOf_16 rfl ?_
        refine aw_iload_n dX0_leastOf_17 rfl ?_
        have b_1 := hc.2 (p) (by omega)
        refine aw_callVR (As := [.int (nI (p))]) (rest := []) (c_X3_numberAt G hR0 (i := p) (by omega) (by omega)) kX3_numberAt w_277 f1 rfl rfl rfl rfl (Nat.le_of_ble_eq_true rfl) dX0_leastOf_18 ⟨Nat.le_of_ble_eq_true rfl, Nat.le_of_ble_eq_true rfl⟩ ⟨Nat.le_of_ble_eq_true rfl, Nat.le_of_ble_eq_true rfl⟩ ?_
        refine aw_istore_n (L' := [(3, .int (nI (l.getD (p) 0 / 2))), (0, .ref (r)), (1, .int (nI (s))), (2, .int (nI (m))), (4, .int (nI (i)))]) dX0_leastOf_21 (by decide) rfl ?_
        refine aw_iload_n dX0_leastOf_22 rfl ?_
        refine aw_iload_n dX0_leastOf_23 rfl ?_
        refine aw_min w_281 w_282 w_16 w_283 (Nat.le_of_ble_eq_true rfl) (Nat.le_of_ble_eq_true rfl) (Nat.le_of_ble_eq_true rfl) (Nat.le_of_ble_eq_true rfl) dX0_leastOf_24 ?_
        refine aw_top (show (if (nI (l.getD (p) 0 / 2)) < (nI (m)) then (nI (l.getD (p) 0 / 2)) else (nI (m))) = (nI (min m (l.getD p 0 / 2))) from n_min _ _ (by omega) (by omega)) ?_
        refine aw_istore_n (L' := [(2, .int (nI (min m (l.getD p 0 / 2)))), (3, .int (nI (l.getD (p) 0 / 2))), (0, .ref (r)), (1, .int (nI (s))), (4, .int (nI (i)))]) dX0_leastOf_27 (by decide) rfl ?_
        refine aw_iincN (k := 1) (L' := [(4, .int (nI (i + 1))), (2, .int (nI (min m (l.getD p 0 / 2)))), (3, .int (nI (l.getD (p) 0 / 2))), (0, .ref (r)), (1, .int (nI (s)))]) dX0_leastOf_28 (by decide) rfl (by decide) rfl ?_
        refine aw_goto (tgt := 7) dX0_leastOf_31 (by decide) ?_
        refine aw_sub (L' := [(0, .ref (r)), (1, .int (nI (s))), (2, .int (nI (min m (l.getD p 0 / 2)))), (3, .int (nI (l.getD (p) 0 / 2))), (4, .int (nI (i + 1)))]) [3, 4, 1, 2, 0] rfl ?_
        exact ih _ _ (i + 1) (by omega) (by omega) (by rw [hm, hp]; rfl) (by rw [hp]; rfl)
  refine aw_sub (L' := [(0, .ref (r)), (1, .int (nI (s))), (2, .int (nI (s))), (3, .int (nI (s))), (4, .int (nI (0)))]) [3, 4, 2, 1, 0] rfl ?_
  exact K (l.length + 1) s s 0 (by omega) (Nat.zero_le _) rfl rfl
set_option maxHeartbeats 4000000 in
set_option maxRecDepth 20000 in
/-- lengthOf(row, s) -/
theorem c_X0_lengthOf (G : aG) {h : aH} {nx r n s : Nat} {l : List Nat} (hR : RowAt h r l) (hc : cOk n l) (hn : n ≤ 16) (hs : s < n) : aMet G mX0_lengthOf 2 0 0 [.ref (r), .int (nI (s))] h nx (pI (nI (cyl l n s)) h nx) := by
  have hR0 := hR
  obtain ⟨f, g, f1, f2, f3, hl, hv⟩ := hR
  have e1 := hc.1
  subst e1
  refine aMet_of rfl (Nat.le_of_ble_eq_true rfl) ?_
  show aw G mX0_lengthOf [] (aRoom 2 0 0) (aEnd G (pI (nI (cyl l l.length s)) h nx) 0 0) 0 0 h nx 0 [(0, .ref (r)), (1, .int (nI (s)))] []
  refine aw_aload_n dX0_lengthOf_0 rfl ?_
  refine aw_iload_n dX0_lengthOf_1 rfl ?_
  have b_1 := hc.2 (s) (by omega)
  refine aw_callVR (As := [.int (nI (s))]) (rest := []) (c_X3_numberAt G hR0 (i := s) (by omega) (by omega)) kX3_numberAt w_277 f1 rfl rfl rfl rfl (Nat.le_of_ble_eq_true rfl) dX0_lengthOf_2 ⟨Nat.le_of_ble_eq_true rfl, Nat.le_of_ble_eq_true rfl⟩ ⟨Nat.le_of_ble_eq_true rfl, Nat.le_of_ble_eq_true rfl⟩ ?_
  refine aw_istore_n (L' := [(2, .int (nI (l.getD (s) 0 / 2))), (0, .ref (r)), (1, .int (nI (s)))]) dX0_lengthOf_5 (by decide) rfl ?_
  refine aw_ic dX0_lengthOf_6 ic_1 ?_
  refine aw_istore_n (L' := [(3, .int (nI (1))), (2, .int (nI (l.getD (s) 0 / 2))), (0, .ref (r)), (1, .int (nI (s)))]) dX0_lengthOf_7 (by decide) rfl ?_
  have K : ∀ (d : Nat) (p i : Nat), l.length - i < d → (1 ≤ i ∧ i ≤ l.length) → (p = itr l i s) → (∀ j, j < i - 1 → (fun t => decide (itr l (t + 1) s = s)) j = false) → aw G mX0_lengthOf [] (aRoom 2 0 0) (aEnd G (pI (nI (cyl l l.length s)) h nx) 0 0) 0 0 h nx 8 [(0, .ref (r)), (1, .int (nI (s))), (2, .int (nI (p))), (3, .int (nI (i)))] [] := by
    intro d
    induction d with
    | zero => intro p i hMd; exact absurd hMd (Nat.not_lt_zero _)
    | succ d ih =>
      intro p i hMd hi hp hno
      have hpl := itr_lt hc hs i
      rw [← hp] at hpl
      refine aw_iload_n dX0_lengthOf_8 rfl ?_
      refine aw_iload_n dX0_lengthOf_9 rfl ?_
      refine aw_icmp_eqN (tgt := 33) (by omega) (by omega) dX0_lengthOf_10 (by decide) (fun c1 => ?_) (fun c1 => ?_)
      · skip
        refine aw_iload_n dX0_lengthOf_33 rfl ?_
        exact aw_ireturn dX0_lengthOf_34 rfl ⟨r_n (by have e : ff (fun t => decide (itr l (t + 1) s = s)) (l.length - 1) = i - 1 := ff_eq (by omega) hno (fun _ => by simp only [decide_eq_true_eq]; rw [show i - 1 + 1 = i by omega, ← hp]; exact c1); unfold cyl; omega), rfl, rfl⟩ (Nat.le_of_ble_eq_true rfl) (Nat.le_of_ble_eq_true rfl)
      · skip
        refine aw_iload_n dX0_lengthOf_13 rfl ?_
        refine aw_aload_n dX0_lengthOf_14 rfl ?_
        refine aw_callVR (As := []) (rest := [.int (nI (i))]) (c_X3_size G hR0) kX3_size w_273 f1 rfl rfl rfl rfl (Nat.le_of_ble_eq_true rfl) dX0_lengthOf_15 ⟨Nat.le_of_ble_eq_true rfl, Nat.le_of_ble_eq_true rfl⟩ ⟨Nat.le_of_ble_eq_true rfl, Nat.le_of_ble_eq_true rfl⟩ ?_
        refine aw_icmp_geN (tgt := 33) (by omega) (by omega) dX0_lengthOf_18 (by decide) (fun c2 => ?_) (fun c2 => ?_)
        · skip
          refine aw_iload_n dX0_lengthOf_33 rfl ?_
          exact aw_ireturn dX0_lengthOf_34 rfl ⟨r_n (by have e : ff (fun t => decide (itr l (t + 1) s = s)) (l.length - 1) = i - 1 := ff_eq (by omega) hno (fun q => absurd q (by omega)); unfold cyl; omega), rfl, rfl⟩ (Nat.le_of_ble_eq_true rfl) (Nat.le_of_ble_eq_true rfl)
        · skip
          refine aw_aload_n dX0_lengthOf_21 rfl ?_
          refine aw_iload_n dX0_lengthOf_22 rfl ?_
          have b_2 := hc.2 (p) (by omega)
          refine aw_callVR (As := [.int (nI (p))]) (rest := []) (c_X3_numberAt G hR0 (i := p) (by omega) (by omega)) kX3_numberAt w_277 f1 rfl rfl rfl rfl (Nat.le_of_ble_eq_true rfl) dX0_lengthOf_23 ⟨Nat.le_of_ble_eq_true rfl, Nat.le_of_ble_eq_true rfl⟩ ⟨Nat.le_of_ble_eq_true rfl, Nat.le_of_ble_eq_true rfl⟩ ?_
          refine aw_istore_n (L' := [(2, .int (nI (l.getD (p) 0 / 2))), (0, .ref (r)), (1, .int (nI (s))), (3, .int (nI (i)))]) dX0_lengthOf_26 (by decide) rfl ?_
          refine aw_iincN (k := 1) (L' := [(3, .int (nI (i + 1))), (2, .int (nI (l.getD (p) 0 / 2))), (0, .ref (r)), (1, .int (nI (s)))]) dX0_lengthOf_27 (by decide) rfl (by decide) rfl ?_
          refine aw_goto (tgt := 8) dX0_lengthOf_30 (by decide) ?_
          refine aw_sub (L' := [(0, .ref (r)), (1, .int (nI (s))), (2, .int (nI (l.getD (p) 0 / 2))), (3, .int (nI (i + 1)))]) [2, 3, 1, 0] rfl ?_
          exact ih _ (i + 1) (by omega) (by omega) (by rw [hp]; rfl) (fun j hj => by rcases Nat.lt_or_ge j (i - 1) with q | q; exact hno j q; simp only [decide_eq_false_iff_not]; rw [show j + 1 = i by omega, ← hp]; exact c1)
  refine aw_sub (L' := [(0, .ref (r)), (1, .int (nI (s))), (2, .int (nI (l.getD (s) 0 / 2))), (3, .int (nI (1)))]) [2, 3, 1, 0] rfl ?_
  exact K (l.length + 1) _ 1 (by omega) (by omega) rfl (fun j hj => by omega)
set_option maxHeartbeats 4000000 in
set_option maxRecDepth 20000 in
/-- turnsOver(row, s) -/
theorem c_X0_turnsOver (G : aG) {h : aH} {nx r n s : Nat} {l : List Nat} (hR : RowAt h r l) (hc : cOk n l) (hn : n ≤ 16) (hs : s < n) : aMet G mX0_turnsOver 3 0 0 [.ref (r), .int (nI (s))] h nx (pI (bI (tov l n s)) h nx) := by
  have hR0 := hR
  obtain ⟨f, g, f1, f2, f3, hl, hv⟩ := hR
  have e1 := hc.1
  subst e1
  refine aMet_of rfl (Nat.le_of_ble_eq_true rfl) ?_
  show aw G mX0_turnsOver [] (aRoom 3 0 0) (aEnd G (pI (bI (tov l l.length s)) h nx) 0 0) 0 0 h nx 0 [(0, .ref (r)), (1, .int (nI (s)))] []
  refine aw_ic dX0_turnsOver_0 ic_0 ?_
  refine aw_istore_n (L' := [(2, .int (nI (0))), (0, .ref (r)), (1, .int (nI (s)))]) dX0_turnsOver_1 (by decide) rfl ?_
  refine aw_iload_n dX0_turnsOver_2 rfl ?_
  refine aw_istore_n (L' := [(3, .int (nI (s))), (2, .int (nI (0))), (0, .ref (r)), (1, .int (nI (s)))]) dX0_turnsOver_3 (by decide) rfl ?_
  refine aw_aload_n dX0_turnsOver_4 rfl ?_
  refine aw_iload_n dX0_turnsOver_5 rfl ?_
  refine aw_callSR (As := [.ref (r), .int (nI (s))]) (rest := []) (c_X0_lengthOf G hR0 hc hn hs) kX0_lengthOf w_290 rfl rfl (Nat.le_of_ble_eq_true rfl) dX0_turnsOver_6 ⟨Nat.le_of_ble_eq_true rfl, Nat.le_of_ble_eq_true rfl⟩ ⟨Nat.le_of_ble_eq_true rfl, Nat.le_of_ble_eq_true rfl⟩ ?_
  have hcl := cyl_le (l := l) (n := l.length) (s := s) (by omega)
  refine aw_istore (L' := [(4, .int (nI (cyl l l.length s))), (3, .int (nI (s))), (2, .int (nI (0))), (0, .ref (r)), (1, .int (nI (s)))]) dX0_turnsOver_9 (by decide) rfl ?_
  refine aw_ic dX0_turnsOver_11 ic_0 ?_
  refine aw_istore (L' := [(5, .int (nI (0))), (4, .int (nI (cyl l l.length s))), (3, .int (nI (s))), (2, .int (nI (0))), (0, .ref (r)), (1, .int (nI (s)))]) dX0_turnsOver_12 (by decide) rfl ?_
  have K : ∀ (d : Nat) (o : Bool) (p i : Nat), cyl l l.length s - i < d → (i ≤ cyl l l.length s) → (o = tvx l s i) → (p = itr l i s) → aw G mX0_turnsOver [] (aRoom 3 0 0) (aEnd G (pI (bI (tov l l.length s)) h nx) 0 0) 0 0 h nx 14 [(0, .ref (r)), (1, .int (nI (s))), (2, .int (bI (o))), (3, .int (nI (p))), (4, .int (nI (cyl l l.length s))), (5, .int (nI (i)))] [] := by
    intro d
    induction d with
    | zero => intro o p i hMd; exact absurd hMd (Nat.not_lt_zero _)
    | succ d ih =>
      intro o p i hMd hi ho hp
      have hpl := itr_lt hc hs i
      rw [← hp] at hpl
      refine aw_iload dX0_turnsOver_14 rfl ?_
      refine aw_iload dX0_turnsOver_16 rfl ?_
      refine aw_icmp_geN (tgt := 48) (by omega) (by omega) dX0_turnsOver_18 (by decide) (fun c1 => ?_) (fun c1 => ?_)
      · skip
        refine aw_iload_n dX0_turnsOver_48 rfl ?_
        exact aw_zreturn dX0_turnsOver_49 rfl (bI_nar o) ⟨r_i (by rw [ho, show i = cyl l l.length s by omega]; rfl), rfl, rfl⟩ (Nat.le_of_ble_eq_true rfl) (Nat.le_of_ble_eq_true rfl)
      · skip
        have hpb := hc.2 p hpl
        refine aw_iload_n dX0_turnsOver_21 rfl ?_
        refine aw_aload_n dX0_turnsOver_22 rfl ?_
        refine aw_iload_n dX0_turnsOver_23 rfl ?_
        refine aw_callVR (As := [.int (nI (p))]) (rest := [.int (bI (o))]) (c_X3_isTurnedAt G hR0 (i := p) (by omega) (by omega)) kX3_isTurnedAt w_504 f1 rfl rfl rfl rfl (Nat.le_of_ble_eq_true rfl) dX0_turnsOver_24 ⟨Nat.le_of_ble_eq_true rfl, Nat.le_of_ble_eq_true rfl⟩ ⟨Nat.le_of_ble_eq_true rfl, Nat.le_of_ble_eq_true rfl⟩ ?_
        have hb1 : o.toNat < 2 := by cases o <;> decide
        have hb2 : (decide (l.getD p 0 % 2 = 1)).toNat < 2 := by cases decide (l.getD p 0 % 2 = 1) <;> decide
        have J : ∀ b : Bool, b = tvx l s (i + 1) → aw G mX0_turnsOver [] (aRoom 3 0 0) (aEnd G (pI (bI (tov l l.length s)) h nx) 0 0) 0 0 h nx 35 [(0, .ref (r)), (1, .int (nI (s))), (2, .int (bI (o))), (3, .int (nI (p))), (4, .int (nI (cyl l l.length s))), (5, .int (nI (i)))] [.int (bI b)] := by
          intro b hb
          refine aw_istore_n (L' := [(2, .int (bI (b))), (0, .ref (r)), (1, .int (nI (s))), (3, .int (nI (p))), (4, .int (nI (cyl l l.length s))), (5, .int (nI (i)))]) dX0_turnsOver_35 (by decide) rfl ?_
          refine aw_aload_n dX0_turnsOver_36 rfl ?_
          refine aw_iload_n dX0_turnsOver_37 rfl ?_
          refine aw_callVR (As := [.int (nI (p))]) (rest := []) (c_X3_numberAt G hR0 (i := p) (by omega) (by omega)) kX3_numberAt w_277 f1 rfl rfl rfl rfl (Nat.le_of_ble_eq_true rfl) dX0_turnsOver_38 ⟨Nat.le_of_ble_eq_true rfl, Nat.le_of_ble_eq_true rfl⟩ ⟨Nat.le_of_ble_eq_true rfl, Nat.le_of_ble_eq_true rfl⟩ ?_
          refine aw_istore_n (L' := [(3, .int (nI (l.getD p 0 / 2))), (2, .int (bI (b))), (0, .ref (r)), (1, .int (nI (s))), (4, .int (nI (cyl l l.length s))), (5, .int (nI (i)))]) dX0_turnsOver_41 (by decide) rfl ?_
          refine aw_iincN (k := 1) (L' := [(5, .int (nI (i + 1))), (3, .int (nI (l.getD p 0 / 2))), (2, .int (bI (b))), (0, .ref (r)), (1, .int (nI (s))), (4, .int (nI (cyl l l.length s)))]) dX0_turnsOver_42 (by decide) rfl (by decide) rfl ?_
          refine aw_goto (tgt := 14) dX0_turnsOver_45 (by decide) ?_
          refine aw_sub (L' := [(0, .ref (r)), (1, .int (nI (s))), (2, .int (bI (b))), (3, .int (nI (l.getD p 0 / 2))), (4, .int (nI (cyl l l.length s))), (5, .int (nI (i + 1)))]) [3, 4, 2, 1, 5, 0] rfl ?_
          exact ih b _ (i + 1) (by omega) (by omega) hb (by rw [hp]; rfl)
        refine aw_icmp_eqN (tgt := 34) (by omega) (by omega) dX0_turnsOver_27 (by decide) (fun c2 => ?_) (fun c2 => ?_)
        · skip
          refine aw_ic dX0_turnsOver_34 ic_0 ?_
          exact J false (by simp only [tvx]; rw [← ho, ← hp]; revert c2; cases o <;> cases hq : up l p <;> simp [up] at * <;> simp_all)
        · skip
          refine aw_ic dX0_turnsOver_30 ic_1 ?_
          refine aw_goto (tgt := 35) dX0_turnsOver_31 (by decide) ?_
          exact J true (by simp only [tvx]; rw [← ho, ← hp]; revert c2; cases o <;> cases hq : up l p <;> simp [up] at * <;> simp_all)
  refine aw_to ?_ (show ([(5, .int (nI (0))), (4, .int (nI (cyl l l.length s))), (3, .int (nI (s))), (2, .int (nI (0))), (0, .ref (r)), (1, .int (nI (s)))] : aL) = [(5, .int (nI (0))), (4, .int (nI (cyl l l.length s))), (3, .int (nI (s))), (2, .int (bI (false))), (0, .ref (r)), (1, .int (nI (s)))] from rfl) rfl rfl
  refine aw_sub (L' := [(0, .ref (r)), (1, .int (nI (s))), (2, .int (bI (false))), (3, .int (nI (s))), (4, .int (nI (cyl l l.length s))), (5, .int (nI (0)))]) [4, 5, 3, 2, 1, 0] rfl ?_
  exact K (cyl l l.length s + 1) false s 0 (by omega) (Nat.zero_le _) rfl rfl
set_option maxHeartbeats 4000000 in
set_option maxRecDepth 20000 in
/-- count(row) -/
theorem c_X0_count (G : aG) {h : aH} {nx r n : Nat} {l : List Nat} (hR : RowAt h r l) (hc : cOk n l) (hn : n ≤ 16) : aMet G mX0_count 3 0 0 [.ref (r)] h nx (pI (nI (cyc l n)) h nx) := by
  have hR0 := hR
  obtain ⟨f, g, f1, f2, f3, hl, hv⟩ := hR
  have e1 := hc.1
  subst e1
  refine aMet_of rfl (Nat.le_of_ble_eq_true rfl) ?_
  show aw G mX0_count [] (aRoom 3 0 0) (aEnd G (pI (nI (cyc l l.length)) h nx) 0 0) 0 0 h nx 0 [(0, .ref (r))] []
  refine aw_ic dX0_count_0 ic_0 ?_
  refine aw_istore_n (L' := [(1, .int (nI (0))), (0, .ref (r))]) dX0_count_1 (by decide) rfl ?_
  refine aw_ic dX0_count_2 ic_0 ?_
  refine aw_istore_n (L' := [(2, .int (nI (0))), (1, .int (nI (0))), (0, .ref (r))]) dX0_count_3 (by decide) rfl ?_
  have K : ∀ (d : Nat) (c i : Nat), l.length - i < d → (i ≤ l.length) → (c = ct (fun p => decide (lsr l p l.length = p)) i) → aw G mX0_count [] (aRoom 3 0 0) (aEnd G (pI (nI (cyc l l.length)) h nx) 0 0) 0 0 h nx 4 [(0, .ref (r)), (1, .int (nI (c))), (2, .int (nI (i)))] [] := by
    intro d
    induction d with
    | zero => intro c i hMd; exact absurd hMd (Nat.not_lt_zero _)
    | succ d ih =>
      intro c i hMd hi hs
      refine aw_iload_n dX0_count_4 rfl ?_
      refine aw_aload_n dX0_count_5 rfl ?_
      refine aw_callVR (As := []) (rest := [.int (nI (i))]) (c_X3_size G hR0) kX3_size w_273 f1 rfl rfl rfl rfl (Nat.le_of_ble_eq_true rfl) dX0_count_6 ⟨Nat.le_of_ble_eq_true rfl, Nat.le_of_ble_eq_true rfl⟩ ⟨Nat.le_of_ble_eq_true rfl, Nat.le_of_ble_eq_true rfl⟩ ?_
      refine aw_icmp_geN (tgt := 30) (by omega) (by omega) dX0_count_9 (by decide) (fun c1 => ?_) (fun c1 => ?_)
      · skip
        refine aw_iload_n dX0_count_30 rfl ?_
        exact aw_ireturn dX0_count_31 rfl ⟨r_n (by rw [hs, show i = l.length by omega]; rfl), rfl, rfl⟩ (Nat.le_of_ble_eq_true rfl) (Nat.le_of_ble_eq_true rfl)
      · skip
        have hlq := lsr_le (l := l) (s := i) l.length
        refine aw_aload_n dX0_count_12 rfl ?_
        refine aw_iload_n dX0_count_13 rfl ?_
        refine aw_callSR (As := [.ref (r), .int (nI (i))]) (rest := []) (c_X0_leastOf G hR0 hc hn c1) kX0_leastOf w_274 rfl rfl (Nat.le_of_ble_eq_true rfl) dX0_count_14 ⟨Nat.le_of_ble_eq_true rfl, Nat.le_of_ble_eq_true rfl⟩ ⟨Nat.le_of_ble_eq_true rfl, Nat.le_of_ble_eq_true rfl⟩ ?_
        refine aw_iload_n dX0_count_17 rfl ?_
        refine aw_icmp_neN (tgt := 24) (by omega) (by omega) dX0_count_18 (by decide) (fun c2 => ?_) (fun c2 => ?_)
        · skip
          refine aw_iincN (k := 1) (L' := [(2, .int (nI (i + 1))), (0, .ref (r)), (1, .int (nI (c)))]) dX0_count_24 (by decide) rfl (by decide) rfl ?_
          refine aw_goto (tgt := 4) dX0_count_27 (by decide) ?_
          refine aw_sub (L' := [(0, .ref (r)), (1, .int (nI (c))), (2, .int (nI (i + 1)))]) [1, 2, 0] rfl ?_
          exact ih c (i + 1) (by omega) (by omega) (by rw [ct_f (p := (fun p => decide (lsr l p l.length = p))) (by simp only [decide_eq_false_iff_not]; exact c2)]; exact hs)
        · skip
          refine aw_iincN (k := 1) (L' := [(1, .int (nI (c + 1))), (0, .ref (r)), (2, .int (nI (i)))]) dX0_count_21 (by decide) rfl (by decide) rfl ?_
          refine aw_iincN (k := 1) (L' := [(2, .int (nI (i + 1))), (1, .int (nI (c + 1))), (0, .ref (r))]) dX0_count_24 (by decide) rfl (by decide) rfl ?_
          refine aw_goto (tgt := 4) dX0_count_27 (by decide) ?_
          refine aw_sub (L' := [(0, .ref (r)), (1, .int (nI (c + 1))), (2, .int (nI (i + 1)))]) [2, 1, 0] rfl ?_
          exact ih (c + 1) (i + 1) (by omega) (by omega) (by rw [ct_t (p := (fun p => decide (lsr l p l.length = p))) (by simp only [decide_eq_true_eq]; exact c2)]; omega)
  refine aw_sub (L' := [(0, .ref (r)), (1, .int (nI (0))), (2, .int (nI (0)))]) [2, 1, 0] rfl ?_
  exact K (l.length + 1) 0 0 (by omega) (Nat.zero_le _) rfl
set_option maxHeartbeats 4000000 in
set_option maxRecDepth 20000 in
/-- longest(row) -/
theorem c_X0_longest (G : aG) {h : aH} {nx r n : Nat} {l : List Nat} (hR : RowAt h r l) (hc : cOk n l) (hn : n ≤ 16) : aMet G mX0_longest 3 0 0 [.ref (r)] h nx (pI (nI (lgs l n n)) h nx) := by
  have hR0 := hR
  obtain ⟨f, g, f1, f2, f3, hl, hv⟩ := hR
  have e1 := hc.1
  subst e1
  refine aMet_of rfl (Nat.le_of_ble_eq_true rfl) ?_
  show aw G mX0_longest [] (aRoom 3 0 0) (aEnd G (pI (nI (lgs l l.length l.length)) h nx) 0 0) 0 0 h nx 0 [(0, .ref (r))] []
  refine aw_ic dX0_longest_0 ic_0 ?_
  refine aw_istore_n (L' := [(1, .int (nI (0))), (0, .ref (r))]) dX0_longest_1 (by decide) rfl ?_
  refine aw_ic dX0_longest_2 ic_0 ?_
  refine aw_istore_n (L' := [(2, .int (nI (0))), (1, .int (nI (0))), (0, .ref (r))]) dX0_longest_3 (by decide) rfl ?_
  have K : ∀ (d : Nat) (c i : Nat), l.length - i < d → (i ≤ l.length) → (c = lgs l l.length i) → aw G mX0_longest [] (aRoom 3 0 0) (aEnd G (pI (nI (lgs l l.length l.length)) h nx) 0 0) 0 0 h nx 4 [(0, .ref (r)), (1, .int (nI (c))), (2, .int (nI (i)))] [] := by
    intro d
    induction d with
    | zero => intro c i hMd; exact absurd hMd (Nat.not_lt_zero _)
    | succ d ih =>
      intro c i hMd hi hs
      refine aw_iload_n dX0_longest_4 rfl ?_
      refine aw_aload_n dX0_longest_5 rfl ?_
      refine aw_callVR (As := []) (rest := [.int (nI (i))]) (c_X3_size G hR0) kX3_size w_273 f1 rfl rfl rfl rfl (Nat.le_of_ble_eq_true rfl) dX0_longest_6 ⟨Nat.le_of_ble_eq_true rfl, Nat.le_of_ble_eq_true rfl⟩ ⟨Nat.le_of_ble_eq_true rfl, Nat.le_of_ble_eq_true rfl⟩ ?_
      refine aw_icmp_geN (tgt := 28) (by omega) (by omega) dX0_longest_9 (by decide) (fun c1 => ?_) (fun c1 => ?_)
      · skip
        refine aw_iload_n dX0_longest_28 rfl ?_
        exact aw_ireturn dX0_longest_29 rfl ⟨r_n (by rw [hs, show i = l.length by omega]), rfl, rfl⟩ (Nat.le_of_ble_eq_true rfl) (Nat.le_of_ble_eq_true rfl)
      · skip
        have g1 := lgs_le (l := l) (n := l.length) (by omega) i
        have g2 := cyl_le (l := l) (n := l.length) (s := i) (by omega)
        refine aw_iload_n dX0_longest_12 rfl ?_
        refine aw_aload_n dX0_longest_13 rfl ?_
        refine aw_iload_n dX0_longest_14 rfl ?_
        refine aw_callSR (As := [.ref (r), .int (nI (i))]) (rest := [.int (nI (c))]) (c_X0_lengthOf G hR0 hc hn c1) kX0_lengthOf w_290 rfl rfl (Nat.le_of_ble_eq_true rfl) dX0_longest_15 ⟨Nat.le_of_ble_eq_true rfl, Nat.le_of_ble_eq_true rfl⟩ ⟨Nat.le_of_ble_eq_true rfl, Nat.le_of_ble_eq_true rfl⟩ ?_
        refine aw_max w_314 w_315 w_16 w_316 (Nat.le_of_ble_eq_true rfl) (Nat.le_of_ble_eq_true rfl) (Nat.le_of_ble_eq_true rfl) (Nat.le_of_ble_eq_true rfl) dX0_longest_18 ?_
        refine aw_top (show (if (nI (c)) < (nI (cyl l l.length i)) then (nI (cyl l l.length i)) else (nI (c))) = (nI (max c (cyl l l.length i))) from n_max _ _ (by omega) (by omega)) ?_
        refine aw_istore_n (L' := [(1, .int (nI (max c (cyl l l.length i)))), (0, .ref (r)), (2, .int (nI (i)))]) dX0_longest_21 (by decide) rfl ?_
        refine aw_iincN (k := 1) (L' := [(2, .int (nI (i + 1))), (1, .int (nI (max c (cyl l l.length i)))), (0, .ref (r))]) dX0_longest_22 (by decide) rfl (by decide) rfl ?_
        refine aw_goto (tgt := 4) dX0_longest_25 (by decide) ?_
        refine aw_sub (L' := [(0, .ref (r)), (1, .int (nI (max c (cyl l l.length i)))), (2, .int (nI (i + 1)))]) [2, 1, 0] rfl ?_
        exact ih _ (i + 1) (by omega) (by omega) (by rw [hs]; rfl)
  refine aw_sub (L' := [(0, .ref (r)), (1, .int (nI (0))), (2, .int (nI (0)))]) [2, 1, 0] rfl ?_
  exact K (l.length + 1) 0 0 (by omega) (Nat.zero_le _) rfl
set_option maxHeartbeats 4000000 in
set_option maxRecDepth 20000 in
/-- placementPeriod(row) -/
theorem c_X0_placementPeriod (G : aG) {h : aH} {nx r n : Nat} {l : List Nat} (hR : RowAt h r l) (hc : cOk n l) (hn : n ≤ 16) : aMet G mX0_placementPeriod 3 0 0 [.ref (r)] h nx (pI (nI (ppd l n n)) h nx) := by
  have hR0 := hR
  obtain ⟨f, g, f1, f2, f3, hl, hv⟩ := hR
  have e1 := hc.1
  subst e1
  refine aMet_of rfl (Nat.le_of_ble_eq_true rfl) ?_
  show aw G mX0_placementPeriod [] (aRoom 3 0 0) (aEnd G (pI (nI (ppd l l.length l.length)) h nx) 0 0) 0 0 h nx 0 [(0, .ref (r))] []
  refine aw_ic dX0_placementPeriod_0 ic_1 ?_
  refine aw_istore_n (L' := [(1, .int (nI (1))), (0, .ref (r))]) dX0_placementPeriod_1 (by decide) rfl ?_
  refine aw_ic dX0_placementPeriod_2 ic_0 ?_
  refine aw_istore_n (L' := [(2, .int (nI (0))), (1, .int (nI (1))), (0, .ref (r))]) dX0_placementPeriod_3 (by decide) rfl ?_
  have K : ∀ (d : Nat) (c i : Nat), l.length - i < d → (i ≤ l.length) → (c = ppd l l.length i) → aw G mX0_placementPeriod [] (aRoom 3 0 0) (aEnd G (pI (nI (ppd l l.length l.length)) h nx) 0 0) 0 0 h nx 4 [(0, .ref (r)), (1, .int (nI (c))), (2, .int (nI (i)))] [] := by
    intro d
    induction d with
    | zero => intro c i hMd; exact absurd hMd (Nat.not_lt_zero _)
    | succ d ih =>
      intro c i hMd hi hs
      refine aw_iload_n dX0_placementPeriod_4 rfl ?_
      refine aw_aload_n dX0_placementPeriod_5 rfl ?_
      refine aw_callVR (As := []) (rest := [.int (nI (i))]) (c_X3_size G hR0) kX3_size w_273 f1 rfl rfl rfl rfl (Nat.le_of_ble_eq_true rfl) dX0_placementPeriod_6 ⟨Nat.le_of_ble_eq_true rfl, Nat.le_of_ble_eq_true rfl⟩ ⟨Nat.le_of_ble_eq_true rfl, Nat.le_of_ble_eq_true rfl⟩ ?_
      refine aw_icmp_geN (tgt := 28) (by omega) (by omega) dX0_placementPeriod_9 (by decide) (fun c1 => ?_) (fun c1 => ?_)
      · skip
        refine aw_iload_n dX0_placementPeriod_28 rfl ?_
        exact aw_ireturn dX0_placementPeriod_29 rfl ⟨r_n (by rw [hs, show i = l.length by omega]), rfl, rfl⟩ (Nat.le_of_ble_eq_true rfl) (Nat.le_of_ble_eq_true rfl)
      · skip
        have g0 := ppd_dvd (l := l) (n := l.length) (by omega) hn i
        have g1 := Nat.le_of_dvd (by decide) g0
        have g3 := dvd_pos g0 (by decide)
        rw [← hs] at g1 g3
        have g2 := cyl_le (l := l) (n := l.length) (s := i) (by omega)
        refine aw_iload_n dX0_placementPeriod_12 rfl ?_
        refine aw_aload_n dX0_placementPeriod_13 rfl ?_
        refine aw_iload_n dX0_placementPeriod_14 rfl ?_
        refine aw_callSR (As := [.ref (r), .int (nI (i))]) (rest := [.int (nI (c))]) (c_X0_lengthOf G hR0 hc hn c1) kX0_lengthOf w_290 rfl rfl (Nat.le_of_ble_eq_true rfl) dX0_placementPeriod_15 ⟨Nat.le_of_ble_eq_true rfl, Nat.le_of_ble_eq_true rfl⟩ ⟨Nat.le_of_ble_eq_true rfl, Nat.le_of_ble_eq_true rfl⟩ ?_
        refine aw_callSR (As := [.int (nI (c)), .int (nI (cyl l l.length i))]) (rest := []) (c_X0_leastMultiple G g3 cyl_pos (by omega) (by omega)) kX0_leastMultiple w_293 rfl rfl (Nat.le_of_ble_eq_true rfl) dX0_placementPeriod_18 ⟨Nat.le_of_ble_eq_true rfl, Nat.le_of_ble_eq_true rfl⟩ ⟨Nat.le_of_ble_eq_true rfl, Nat.le_of_ble_eq_true rfl⟩ ?_
        refine aw_istore_n (L' := [(1, .int (nI (Nat.lcm c (cyl l l.length i)))), (0, .ref (r)), (2, .int (nI (i)))]) dX0_placementPeriod_21 (by decide) rfl ?_
        refine aw_iincN (k := 1) (L' := [(2, .int (nI (i + 1))), (1, .int (nI (Nat.lcm c (cyl l l.length i)))), (0, .ref (r))]) dX0_placementPeriod_22 (by decide) rfl (by decide) rfl ?_
        refine aw_goto (tgt := 4) dX0_placementPeriod_25 (by decide) ?_
        refine aw_sub (L' := [(0, .ref (r)), (1, .int (nI (Nat.lcm c (cyl l l.length i)))), (2, .int (nI (i + 1)))]) [2, 1, 0] rfl ?_
        exact ih _ (i + 1) (by omega) (by omega) (by rw [hs]; rfl)
  refine aw_sub (L' := [(0, .ref (r)), (1, .int (nI (1))), (2, .int (nI (0)))]) [2, 1, 0] rfl ?_
  exact K (l.length + 1) 1 0 (by omega) (Nat.zero_le _) rfl
set_option maxHeartbeats 4000000 in
set_option maxRecDepth 20000 in
/-- fullPeriod(row) -/
theorem c_X0_fullPeriod (G : aG) {h : aH} {nx r n : Nat} {l : List Nat} (hR : RowAt h r l) (hc : cOk n l) (hn : n ≤ 16) : aMet G mX0_fullPeriod 4 0 0 [.ref (r)] h nx (pI (nI (fpd l n n)) h nx) := by
  have hR0 := hR
  obtain ⟨f, g, f1, f2, f3, hl, hv⟩ := hR
  have e1 := hc.1
  subst e1
  refine aMet_of rfl (Nat.le_of_ble_eq_true rfl) ?_
  show aw G mX0_fullPeriod [] (aRoom 4 0 0) (aEnd G (pI (nI (fpd l l.length l.length)) h nx) 0 0) 0 0 h nx 0 [(0, .ref (r))] []
  refine aw_ic dX0_fullPeriod_0 ic_1 ?_
  refine aw_istore_n (L' := [(1, .int (nI (1))), (0, .ref (r))]) dX0_fullPeriod_1 (by decide) rfl ?_
  refine aw_ic dX0_fullPeriod_2 ic_0 ?_
  refine aw_istore_n (L' := [(2, .int (nI (0))), (1, .int (nI (1))), (0, .ref (r))]) dX0_fullPeriod_3 (by decide) rfl ?_
  have K : ∀ (d : Nat) (c i : Nat), l.length - i < d → (i ≤ l.length) → (c = fpd l l.length i) → aw G mX0_fullPeriod [] (aRoom 4 0 0) (aEnd G (pI (nI (fpd l l.length l.length)) h nx) 0 0) 0 0 h nx 4 [(0, .ref (r)), (1, .int (nI (c))), (2, .int (nI (i)))] [] := by
    intro d
    induction d with
    | zero => intro c i hMd; exact absurd hMd (Nat.not_lt_zero _)
    | succ d ih =>
      intro c i hMd hi hs
      refine aw_iload_n dX0_fullPeriod_4 rfl ?_
      refine aw_aload_n dX0_fullPeriod_5 rfl ?_
      refine aw_callVR (As := []) (rest := [.int (nI (i))]) (c_X3_size G hR0) kX3_size w_273 f1 rfl rfl rfl rfl (Nat.le_of_ble_eq_true rfl) dX0_fullPeriod_6 ⟨Nat.le_of_ble_eq_true rfl, Nat.le_of_ble_eq_true rfl⟩ ⟨Nat.le_of_ble_eq_true rfl, Nat.le_of_ble_eq_true rfl⟩ ?_
      refine aw_icmp_geN (tgt := 44) (by omega) (by omega) dX0_fullPeriod_9 (by decide) (fun c1 => ?_) (fun c1 => ?_)
      · skip
        refine aw_iload_n dX0_fullPeriod_44 rfl ?_
        exact aw_ireturn dX0_fullPeriod_45 rfl ⟨r_n (by rw [hs, show i = l.length by omega]), rfl, rfl⟩ (Nat.le_of_ble_eq_true rfl) (Nat.le_of_ble_eq_true rfl)
      · skip
        have g0 := fpd_dvd (l := l) (n := l.length) (by omega) hn i
        have g1 := Nat.le_of_dvd (by decide) g0
        have g3 := dvd_pos g0 (by decide)
        rw [← hs] at g1 g3
        have g2 := cyl_le (l := l) (n := l.length) (s := i) (by omega)
        have g4 := cyl_pos (l := l) (n := l.length) (s := i)
        refine aw_aload_n dX0_fullPeriod_12 rfl ?_
        refine aw_iload_n dX0_fullPeriod_13 rfl ?_
        refine aw_callSR (As := [.ref (r), .int (nI (i))]) (rest := []) (c_X0_turnsOver G hR0 hc hn c1) kX0_turnsOver w_501 rfl rfl (Nat.le_of_ble_eq_true rfl) dX0_fullPeriod_14 ⟨Nat.le_of_ble_eq_true rfl, Nat.le_of_ble_eq_true rfl⟩ ⟨Nat.le_of_ble_eq_true rfl, Nat.le_of_ble_eq_true rfl⟩ ?_
        have J : ∀ k : Nat, 0 < k → k ≤ 2 → k = (if tov l l.length i then 2 else 1) → aw G mX0_fullPeriod [] (aRoom 4 0 0) (aEnd G (pI (nI (fpd l l.length l.length)) h nx) 0 0) 0 0 h nx 25 [(0, .ref (r)), (1, .int (nI (c))), (2, .int (nI (i)))] [.int (nI k)] := by
          intro k hk1 hk2 hk
          refine aw_istore_n (L' := [(3, .int (nI (k))), (0, .ref (r)), (1, .int (nI (c))), (2, .int (nI (i)))]) dX0_fullPeriod_25 (by decide) rfl ?_
          refine aw_iload_n dX0_fullPeriod_26 rfl ?_
          refine aw_iload_n dX0_fullPeriod_27 rfl ?_
          refine aw_aload_n dX0_fullPeriod_28 rfl ?_
          refine aw_iload_n dX0_fullPeriod_29 rfl ?_
          refine aw_callSR (As := [.ref (r), .int (nI (i))]) (rest := [.int (nI (k)), .int (nI (c))]) (c_X0_lengthOf G hR0 hc hn c1) kX0_lengthOf w_290 rfl rfl (Nat.le_of_ble_eq_true rfl) dX0_fullPeriod_30 ⟨Nat.le_of_ble_eq_true rfl, Nat.le_of_ble_eq_true rfl⟩ ⟨Nat.le_of_ble_eq_true rfl, Nat.le_of_ble_eq_true rfl⟩ ?_
          refine aw_imulN dX0_fullPeriod_33 ?_
          have gm : k * cyl l l.length i ≤ 2 * 16 := Nat.mul_le_mul hk2 (by omega)
          refine aw_callSR (As := [.int (nI (c)), .int (nI (k * (cyl l l.length i)))]) (rest := []) (c_X0_leastMultiple G g3 (Nat.mul_pos hk1 g4) (by omega) (by omega)) kX0_leastMultiple w_293 rfl rfl (Nat.le_of_ble_eq_true rfl) dX0_fullPeriod_34 ⟨Nat.le_of_ble_eq_true rfl, Nat.le_of_ble_eq_true rfl⟩ ⟨Nat.le_of_ble_eq_true rfl, Nat.le_of_ble_eq_true rfl⟩ ?_
          refine aw_istore_n (L' := [(1, .int (nI (Nat.lcm c (k * cyl l l.length i)))), (3, .int (nI (k))), (0, .ref (r)), (2, .int (nI (i)))]) dX0_fullPeriod_37 (by decide) rfl ?_
          refine aw_iincN (k := 1) (L' := [(2, .int (nI (i + 1))), (1, .int (nI (Nat.lcm c (k * cyl l l.length i)))), (3, .int (nI (k))), (0, .ref (r))]) dX0_fullPeriod_38 (by decide) rfl (by decide) rfl ?_
          refine aw_goto (tgt := 4) dX0_fullPeriod_41 (by decide) ?_
          refine aw_sub (L' := [(0, .ref (r)), (1, .int (nI (Nat.lcm c (k * cyl l l.length i)))), (2, .int (nI (i + 1)))]) [3, 1, 0] rfl ?_
          exact ih _ (i + 1) (by omega) (by omega) (by rw [hs, hk]; rfl)
        refine aw_if_eqB (tgt := 24) dX0_fullPeriod_17 (by decide) (fun c2 => ?_) (fun c2 => ?_)
        · skip
          refine aw_ic dX0_fullPeriod_24 ic_1 ?_
          exact J 1 (by decide) (by decide) (by rw [c2]; rfl)
        · skip
          refine aw_ic dX0_fullPeriod_20 ic_2 ?_
          refine aw_goto (tgt := 25) dX0_fullPeriod_21 (by decide) ?_
          exact J 2 (by decide) (by decide) (by rw [c2]; rfl)
  refine aw_sub (L' := [(0, .ref (r)), (1, .int (nI (1))), (2, .int (nI (0)))]) [2, 1, 0] rfl ?_
  exact K (l.length + 1) 1 0 (by omega) (Nat.zero_le _) rfl
