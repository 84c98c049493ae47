set_option maxHeartbeats 4000000 in
set_option maxRecDepth 20000 in
/-- inversions -/
theorem c_X2_inversions (G : aG) {h : aH} {nx r n : Nat} {l : List Nat} (hR : RowAt h r l) (hc : cOk n l) (hn : n ≤ 16) : aMet G mX2_inversions 2 0 0 [.ref (r)] h nx (pI (nI (invs l n)) h nx) := by
  have hR0 := hR
  obtain ⟨f, g, f1, f2, f3, hl, hv⟩ := hR
  have e1 := hc.1
  subst e1
  refine aMet_of rfl (Nat.le_of_ble_eq_true rfl) ?_
  show aw G mX2_inversions [] (aRoom 2 0 0) (aEnd G (pI (nI (invs l l.length)) h nx) 0 0) 0 0 h nx 0 [(0, .ref (r))] []
  refine aw_ic dX2_inversions_0 ic_0 ?_
  refine aw_istore_n (L' := [(1, .int (nI (0))), (0, .ref (r))]) dX2_inversions_1 (by decide) rfl ?_
  refine aw_ic dX2_inversions_2 ic_0 ?_
  refine aw_istore_n (L' := [(2, .int (nI (0))), (1, .int (nI (0))), (0, .ref (r))]) dX2_inversions_3 (by decide) rfl ?_
  have K : ∀ (d : Nat) (c i : Nat), l.length - i < d → (i ≤ l.length) → (c = sm (fun k => ct (fun j => decide (k < j) && decide (cd l j < cd l k)) l.length) i) → aw G mX2_inversions [] (aRoom 2 0 0) (aEnd G (pI (nI (invs l l.length)) h nx) 0 0) 0 0 h nx 4 [(0, .ref (r)), (1, .int (nI (c))), (2, .int (nI (i)))] [] := by
    intro d
    induction d with
    | zero => intro c i hMd; exact absurd hMd (Nat.not_lt_zero _)
    | succ d ih =>
      intro c i hMd hi hs
      refine aw_iload_n dX2_inversions_4 rfl ?_
      refine aw_aload_n dX2_inversions_5 rfl ?_
      refine aw_callVR (As := []) (rest := [.int (nI (i))]) (c_X3_size G hR0) kX3_size w_229 f1 rfl rfl rfl rfl (Nat.le_of_ble_eq_true rfl) dX2_inversions_6 ⟨Nat.le_of_ble_eq_true rfl, Nat.le_of_ble_eq_true rfl⟩ ⟨Nat.le_of_ble_eq_true rfl, Nat.le_of_ble_eq_true rfl⟩ ?_
      refine aw_icmp_geN (tgt := 52) (by omega) (by omega) dX2_inversions_9 (by decide) (fun c1 => ?_) (fun c1 => ?_)
      · skip
        refine aw_iload_n dX2_inversions_52 rfl ?_
        exact aw_ireturn dX2_inversions_53 rfl ⟨r_n (by rw [hs, show i = l.length by omega]; rfl), rfl, rfl⟩ (Nat.le_of_ble_eq_true rfl) (Nat.le_of_ble_eq_true rfl)
      · skip
        refine aw_iload_n dX2_inversions_12 rfl ?_
        refine aw_ic dX2_inversions_13 ic_1 ?_
        refine aw_iaddN dX2_inversions_14 ?_
        refine aw_istore_n (L' := [(3, .int (nI (i + 1))), (0, .ref (r)), (1, .int (nI (c))), (2, .int (nI (i)))]) dX2_inversions_15 (by decide) rfl ?_
        have ihO := ih
        have K2 : ∀ (d : Nat) (m j : Nat), l.length - j < d → (i + 1 ≤ j ∧ j ≤ l.length) → (m = c + ct (fun j => decide (i < j) && decide (cd l j < cd l i)) j) → aw G mX2_inversions [] (aRoom 2 0 0) (aEnd G (pI (nI (invs l l.length)) h nx) 0 0) 0 0 h nx 16 [(0, .ref (r)), (1, .int (nI (m))), (2, .int (nI (i))), (3, .int (nI (j)))] [] := by
          intro d
          induction d with
          | zero => intro m j hMd; exact absurd hMd (Nat.not_lt_zero _)
          | succ d ih =>
            intro m j hMd hj hs2
            refine aw_iload_n dX2_inversions_16 rfl ?_
            refine aw_aload_n dX2_inversions_17 rfl ?_
            refine aw_callVR (As := []) (rest := [.int (nI (j))]) (c_X3_size G hR0) kX3_size w_229 f1 rfl rfl rfl rfl (Nat.le_of_ble_eq_true rfl) dX2_inversions_18 ⟨Nat.le_of_ble_eq_true rfl, Nat.le_of_ble_eq_true rfl⟩ ⟨Nat.le_of_ble_eq_true rfl, Nat.le_of_ble_eq_true rfl⟩ ?_
            refine aw_icmp_geN (tgt := 46) (by omega) (by omega) dX2_inversions_21 (by decide) (fun c2 => ?_) (fun c2 => ?_)
            · skip
              refine aw_iincN (k := 1) (L' := [(2, .int (nI (i + 1))), (0, .ref (r)), (1, .int (nI (m))), (3, .int (nI (j)))]) dX2_inversions_46 (by decide) rfl (by decide) rfl ?_
              refine aw_goto (tgt := 4) dX2_inversions_49 (by decide) ?_
              refine aw_sub (L' := [(0, .ref (r)), (1, .int (nI (m))), (2, .int (nI (i + 1)))]) [1, 2, 0] rfl ?_
              exact ihO m (i + 1) (by omega) (by omega) (by rw [hs2, show j = l.length by omega, hs]; rfl)
            · skip
              refine aw_aload_n dX2_inversions_24 rfl ?_
              refine aw_iload_n dX2_inversions_25 rfl ?_
              have b_1 := hc.2 (i) (by omega)
              refine aw_callVR (As := [.int (nI (i))]) (rest := []) (c_X3_numberAt G hR0 (i := i) (by omega) (by omega)) kX3_numberAt w_299 f1 rfl rfl rfl rfl (Nat.le_of_ble_eq_true rfl) dX2_inversions_26 ⟨Nat.le_of_ble_eq_true rfl, Nat.le_of_ble_eq_true rfl⟩ ⟨Nat.le_of_ble_eq_true rfl, Nat.le_of_ble_eq_true rfl⟩ ?_
              refine aw_aload_n dX2_inversions_29 rfl ?_
              refine aw_iload_n dX2_inversions_30 rfl ?_
              have b_2 := hc.2 (j) (by omega)
              refine aw_callVR (As := [.int (nI (j))]) (rest := [.int (nI (l.getD (i) 0 / 2))]) (c_X3_numberAt G hR0 (i := j) (by omega) (by omega)) kX3_numberAt w_299 f1 rfl rfl rfl rfl (Nat.le_of_ble_eq_true rfl) dX2_inversions_31 ⟨Nat.le_of_ble_eq_true rfl, Nat.le_of_ble_eq_true rfl⟩ ⟨Nat.le_of_ble_eq_true rfl, Nat.le_of_ble_eq_true rfl⟩ ?_
              refine aw_icmp_leN (tgt := 40) (by omega) (by omega) dX2_inversions_34 (by decide) (fun c3 => ?_) (fun c3 => ?_)
              · skip
                refine aw_iincN (k := 1) (L' := [(3, .int (nI (j + 1))), (0, .ref (r)), (1, .int (nI (m))), (2, .int (nI (i)))]) dX2_inversions_40 (by decide) rfl (by decide) rfl ?_
                refine aw_goto (tgt := 16) dX2_inversions_43 (by decide) ?_
                refine aw_sub (L' := [(0, .ref (r)), (1, .int (nI (m))), (2, .int (nI (i))), (3, .int (nI (j + 1)))]) [1, 2, 3, 0] rfl ?_
                exact ih m (j + 1) (by omega) (by omega) (by rw [ct_f (p := (fun j => decide (i < j) && decide (cd l j < cd l i))) (by simp only [cd, Bool.and_eq_false_iff, decide_eq_false_iff_not]; omega)]; exact hs2)
              · skip
                refine aw_iincN (k := 1) (L' := [(1, .int (nI (m + 1))), (0, .ref (r)), (2, .int (nI (i))), (3, .int (nI (j)))]) dX2_inversions_37 (by decide) rfl (by decide) rfl ?_
                refine aw_iincN (k := 1) (L' := [(3, .int (nI (j + 1))), (1, .int (nI (m + 1))), (0, .ref (r)), (2, .int (nI (i)))]) dX2_inversions_40 (by decide) rfl (by decide) rfl ?_
                refine aw_goto (tgt := 16) dX2_inversions_43 (by decide) ?_
                refine aw_sub (L' := [(0, .ref (r)), (1, .int (nI (m + 1))), (2, .int (nI (i))), (3, .int (nI (j + 1)))]) [2, 1, 3, 0] rfl ?_
                exact ih (m + 1) (j + 1) (by omega) (by omega) (by rw [ct_t (p := (fun j => decide (i < j) && decide (cd l j < cd l i))) (by simp only [cd, Bool.and_eq_true, decide_eq_true_eq]; omega)]; omega)
        refine aw_sub (L' := [(0, .ref (r)), (1, .int (nI (c))), (2, .int (nI (i))), (3, .int (nI (i + 1)))]) [1, 2, 3, 0] rfl ?_
        exact K2 (l.length - (i + 1) + 1) c (i + 1) (by omega) (by omega) (by rw [ct_0 (fun k hk => by simp; omega)]; rfl)
  refine aw_sub (L' := [(0, .ref (r)), (1, .int (nI (0))), (2, .int (nI (0)))]) [2, 1, 0] rfl ?_
  exact K (l.length + 1) 0 0 (by omega) (Nat.zero_le _) rfl
set_option maxHeartbeats 4000000 in
set_option maxRecDepth 20000 in
/-- risingRuns -/
theorem c_X2_risingRuns (G : aG) {h : aH} {nx r n : Nat} {l : List Nat} (hR : RowAt h r l) (hc : cOk n l) (hn : n ≤ 16) (ha : cAll n l) (h0 : 0 < n) : aMet G mX2_risingRuns 3 0 0 [.ref (r)] h nx (pI (nI (runs l n)) h nx) := by
  have hR0 := hR
  obtain ⟨f, g, f1, f2, f3, hl, hv⟩ := hR
  have e1 := hc.1
  subst e1
  refine aMet_of rfl (Nat.le_of_ble_eq_true rfl) ?_
  show aw G mX2_risingRuns [] (aRoom 3 0 0) (aEnd G (pI (nI (runs l l.length)) h nx) 0 0) 0 0 h nx 0 [(0, .ref (r))] []
  refine aw_ic dX2_risingRuns_0 ic_1 ?_
  refine aw_istore_n (L' := [(1, .int (nI (1))), (0, .ref (r))]) dX2_risingRuns_1 (by decide) rfl ?_
  refine aw_ic dX2_risingRuns_2 ic_1 ?_
  refine aw_istore_n (L' := [(2, .int (nI (1))), (1, .int (nI (1))), (0, .ref (r))]) dX2_risingRuns_3 (by decide) rfl ?_
  have K : ∀ (d : Nat) (c i : Nat), l.length - i < d → (1 ≤ i ∧ i ≤ l.length) → (c = 1 + ct (fun i => decide (ixOf l (i + 1) < ixOf l i)) (i - 1)) → aw G mX2_risingRuns [] (aRoom 3 0 0) (aEnd G (pI (nI (runs l l.length)) h nx) 0 0) 0 0 h nx 4 [(0, .ref (r)), (1, .int (nI (c))), (2, .int (nI (i)))] [] := by
    intro d
    induction d with
    | zero => intro c i hMd; exact absurd hMd (Nat.not_lt_zero _)
    | succ d ih =>
      intro c i hMd hi hs
      refine aw_iload_n dX2_risingRuns_4 rfl ?_
      refine aw_aload_n dX2_risingRuns_5 rfl ?_
      refine aw_callVR (As := []) (rest := [.int (nI (i))]) (c_X3_size G hR0) kX3_size w_229 f1 rfl rfl rfl rfl (Nat.le_of_ble_eq_true rfl) dX2_risingRuns_6 ⟨Nat.le_of_ble_eq_true rfl, Nat.le_of_ble_eq_true rfl⟩ ⟨Nat.le_of_ble_eq_true rfl, Nat.le_of_ble_eq_true rfl⟩ ?_
      refine aw_icmp_geN (tgt := 36) (by omega) (by omega) dX2_risingRuns_9 (by decide) (fun c1 => ?_) (fun c1 => ?_)
      · skip
        refine aw_iload_n dX2_risingRuns_36 rfl ?_
        exact aw_ireturn dX2_risingRuns_37 rfl ⟨r_n (by rw [hs, show i = l.length by omega]; rfl), rfl, rfl⟩ (Nat.le_of_ble_eq_true rfl) (Nat.le_of_ble_eq_true rfl)
      · skip
        refine aw_aload_n dX2_risingRuns_12 rfl ?_
        refine aw_iload_n dX2_risingRuns_13 rfl ?_
        have g1 := ixOf_lt (ha i c1)
        have g2 := ixOf_lt (ha (i - 1) (by omega))
        refine aw_callVR (As := [.int (nI (i))]) (rest := []) (c_X3_placeOf G hR0 hc hn (ha i c1)) kX3_placeOf w_303 f1 rfl rfl rfl rfl (Nat.le_of_ble_eq_true rfl) dX2_risingRuns_14 ⟨Nat.le_of_ble_eq_true rfl, Nat.le_of_ble_eq_true rfl⟩ ⟨Nat.le_of_ble_eq_true rfl, Nat.le_of_ble_eq_true rfl⟩ ?_
        refine aw_aload_n dX2_risingRuns_17 rfl ?_
        refine aw_iload_n dX2_risingRuns_18 rfl ?_
        refine aw_ic dX2_risingRuns_19 ic_1 ?_
        refine aw_isubN (by omega) dX2_risingRuns_20 ?_
        refine aw_callVR (As := [.int (nI (i - 1))]) (rest := [.int (nI (ixOf l i))]) (c_X3_placeOf G hR0 hc hn (ha (i - 1) (by omega))) kX3_placeOf w_303 f1 rfl rfl rfl rfl (Nat.le_of_ble_eq_true rfl) dX2_risingRuns_21 ⟨Nat.le_of_ble_eq_true rfl, Nat.le_of_ble_eq_true rfl⟩ ⟨Nat.le_of_ble_eq_true rfl, Nat.le_of_ble_eq_true rfl⟩ ?_
        refine aw_icmp_geN (tgt := 30) (by omega) (by omega) dX2_risingRuns_24 (by decide) (fun c2 => ?_) (fun c2 => ?_)
        · skip
          refine aw_iincN (k := 1) (L' := [(2, .int (nI (i + 1))), (0, .ref (r)), (1, .int (nI (c)))]) dX2_risingRuns_30 (by decide) rfl (by decide) rfl ?_
          refine aw_goto (tgt := 4) dX2_risingRuns_33 (by decide) ?_
          refine aw_sub (L' := [(0, .ref (r)), (1, .int (nI (c))), (2, .int (nI (i + 1)))]) [1, 2, 0] rfl ?_
          exact ih c (i + 1) (by omega) (by omega) (by rw [show i + 1 - 1 = (i - 1) + 1 by omega, ct_f (p := (fun i => decide (ixOf l (i + 1) < ixOf l i))) (by simp only [decide_eq_false_iff_not]; rw [show i - 1 + 1 = i by omega]; omega)]; exact hs)
        · skip
          refine aw_iincN (k := 1) (L' := [(1, .int (nI (c + 1))), (0, .ref (r)), (2, .int (nI (i)))]) dX2_risingRuns_27 (by decide) rfl (by decide) rfl ?_
          refine aw_iincN (k := 1) (L' := [(2, .int (nI (i + 1))), (1, .int (nI (c + 1))), (0, .ref (r))]) dX2_risingRuns_30 (by decide) rfl (by decide) rfl ?_
          refine aw_goto (tgt := 4) dX2_risingRuns_33 (by decide) ?_
          refine aw_sub (L' := [(0, .ref (r)), (1, .int (nI (c + 1))), (2, .int (nI (i + 1)))]) [2, 1, 0] rfl ?_
          exact ih (c + 1) (i + 1) (by omega) (by omega) (by rw [show i + 1 - 1 = (i - 1) + 1 by omega, ct_t (p := (fun i => decide (ixOf l (i + 1) < ixOf l i))) (by simp only [decide_eq_true_eq]; rw [show i - 1 + 1 = i by omega]; omega)]; omega)
  refine aw_sub (L' := [(0, .ref (r)), (1, .int (nI (1))), (2, .int (nI (1)))]) [2, 1, 0] rfl ?_
  exact K (l.length + 1) 1 1 (by omega) (by omega) rfl
set_option maxHeartbeats 4000000 in
set_option maxRecDepth 20000 in
/-- facesUp -/
theorem c_X2_facesUp (G : aG) {h : aH} {nx r n : Nat} {l : List Nat} (hR : RowAt h r l) (hc : cOk n l) (hn : n ≤ 16) : aMet G mX2_facesUp 2 0 0 [.ref (r)] h nx (pI (nI (ups l n)) h nx) := by
  have hR0 := hR
  obtain ⟨f, g, f1, f2, f3, hl, hv⟩ := hR
  have e1 := hc.1
  subst e1
  refine aMet_of rfl (Nat.le_of_ble_eq_true rfl) ?_
  show aw G mX2_facesUp [] (aRoom 2 0 0) (aEnd G (pI (nI (ups l l.length)) h nx) 0 0) 0 0 h nx 0 [(0, .ref (r))] []
  refine aw_ic dX2_facesUp_0 ic_0 ?_
  refine aw_istore_n (L' := [(1, .int (nI (0))), (0, .ref (r))]) dX2_facesUp_1 (by decide) rfl ?_
  refine aw_ic dX2_facesUp_2 ic_0 ?_
  refine aw_istore_n (L' := [(2, .int (nI (0))), (1, .int (nI (0))), (0, .ref (r))]) dX2_facesUp_3 (by decide) rfl ?_
  have K : ∀ (d : Nat) (c i : Nat), l.length - i < d → (i ≤ l.length) → (c = ct (fun i => up l i) i) → aw G mX2_facesUp [] (aRoom 2 0 0) (aEnd G (pI (nI (ups l l.length)) h nx) 0 0) 0 0 h nx 4 [(0, .ref (r)), (1, .int (nI (c))), (2, .int (nI (i)))] [] := by
    intro d
    induction d with
    | zero => intro c i hMd; exact absurd hMd (Nat.not_lt_zero _)
    | succ d ih =>
      intro c i hMd hi hs
      refine aw_iload_n dX2_facesUp_4 rfl ?_
      refine aw_aload_n dX2_facesUp_5 rfl ?_
      refine aw_callVR (As := []) (rest := [.int (nI (i))]) (c_X3_size G hR0) kX3_size w_229 f1 rfl rfl rfl rfl (Nat.le_of_ble_eq_true rfl) dX2_facesUp_6 ⟨Nat.le_of_ble_eq_true rfl, Nat.le_of_ble_eq_true rfl⟩ ⟨Nat.le_of_ble_eq_true rfl, Nat.le_of_ble_eq_true rfl⟩ ?_
      refine aw_icmp_geN (tgt := 29) (by omega) (by omega) dX2_facesUp_9 (by decide) (fun c1 => ?_) (fun c1 => ?_)
      · skip
        refine aw_iload_n dX2_facesUp_29 rfl ?_
        exact aw_ireturn dX2_facesUp_30 rfl ⟨r_n (by rw [hs, show i = l.length by omega]; rfl), rfl, rfl⟩ (Nat.le_of_ble_eq_true rfl) (Nat.le_of_ble_eq_true rfl)
      · skip
        refine aw_aload_n dX2_facesUp_12 rfl ?_
        refine aw_iload_n dX2_facesUp_13 rfl ?_
        refine aw_callVR (As := [.int (nI (i))]) (rest := []) (c_X3_isTurnedAt G hR0 (i := i) (by omega) (by have := hc.2 i (by omega); omega)) kX3_isTurnedAt w_230 f1 rfl rfl rfl rfl (Nat.le_of_ble_eq_true rfl) dX2_facesUp_14 ⟨Nat.le_of_ble_eq_true rfl, Nat.le_of_ble_eq_true rfl⟩ ⟨Nat.le_of_ble_eq_true rfl, Nat.le_of_ble_eq_true rfl⟩ ?_
        refine aw_if_eqB (tgt := 23) dX2_facesUp_17 (by decide) (fun c2 => ?_) (fun c2 => ?_)
        · skip
          refine aw_iincN (k := 1) (L' := [(2, .int (nI (i + 1))), (0, .ref (r)), (1, .int (nI (c)))]) dX2_facesUp_23 (by decide) rfl (by decide) rfl ?_
          refine aw_goto (tgt := 4) dX2_facesUp_26 (by decide) ?_
          refine aw_sub (L' := [(0, .ref (r)), (1, .int (nI (c))), (2, .int (nI (i + 1)))]) [1, 2, 0] rfl ?_
          exact ih c (i + 1) (by omega) (by omega) (by rw [ct_f (p := (fun i => up l i)) (c2)]; exact hs)
        · skip
          refine aw_iincN (k := 1) (L' := [(1, .int (nI (c + 1))), (0, .ref (r)), (2, .int (nI (i)))]) dX2_facesUp_20 (by decide) rfl (by decide) rfl ?_
          refine aw_iincN (k := 1) (L' := [(2, .int (nI (i + 1))), (1, .int (nI (c + 1))), (0, .ref (r))]) dX2_facesUp_23 (by decide) rfl (by decide) rfl ?_
          refine aw_goto (tgt := 4) dX2_facesUp_26 (by decide) ?_
          refine aw_sub (L' := [(0, .ref (r)), (1, .int (nI (c + 1))), (2, .int (nI (i + 1)))]) [2, 1, 0] rfl ?_
          exact ih (c + 1) (i + 1) (by omega) (by omega) (by rw [ct_t (p := (fun i => up l i)) (c2)]; omega)
  refine aw_sub (L' := [(0, .ref (r)), (1, .int (nI (0))), (2, .int (nI (0)))]) [2, 1, 0] rfl ?_
  exact K (l.length + 1) 0 0 (by omega) (Nat.zero_le _) rfl
set_option maxHeartbeats 4000000 in
set_option maxRecDepth 20000 in
/-- fixed -/
theorem c_X0_fixed (G : aG) {h : aH} {nx r n : Nat} {l : List Nat} (hR : RowAt h r l) (hc : cOk n l) (hn : n ≤ 16) : aMet G mX0_fixed 2 0 0 [.ref (r)] h nx (pI (nI (fixs l n)) h nx) := by
  have hR0 := hR
  obtain ⟨f, g, f1, f2, f3, hl, hv⟩ := hR
  have e1 := hc.1
  subst e1
  refine aMet_of rfl (Nat.le_of_ble_eq_true rfl) ?_
  show aw G mX0_fixed [] (aRoom 2 0 0) (aEnd G (pI (nI (fixs l l.length)) h nx) 0 0) 0 0 h nx 0 [(0, .ref (r))] []
  refine aw_ic dX0_fixed_0 ic_0 ?_
  refine aw_istore_n (L' := [(1, .int (nI (0))), (0, .ref (r))]) dX0_fixed_1 (by decide) rfl ?_
  refine aw_ic dX0_fixed_2 ic_0 ?_
  refine aw_istore_n (L' := [(2, .int (nI (0))), (1, .int (nI (0))), (0, .ref (r))]) dX0_fixed_3 (by decide) rfl ?_
  have K : ∀ (d : Nat) (c i : Nat), l.length - i < d → (i ≤ l.length) → (c = ct (fun i => decide (cd l i = i)) i) → aw G mX0_fixed [] (aRoom 2 0 0) (aEnd G (pI (nI (fixs l l.length)) h nx) 0 0) 0 0 h nx 4 [(0, .ref (r)), (1, .int (nI (c))), (2, .int (nI (i)))] [] := by
    intro d
    induction d with
    | zero => intro c i hMd; exact absurd hMd (Nat.not_lt_zero _)
    | succ d ih =>
      intro c i hMd hi hs
      refine aw_iload_n dX0_fixed_4 rfl ?_
      refine aw_aload_n dX0_fixed_5 rfl ?_
      refine aw_callVR (As := []) (rest := [.int (nI (i))]) (c_X3_size G hR0) kX3_size w_273 f1 rfl rfl rfl rfl (Nat.le_of_ble_eq_true rfl) dX0_fixed_6 ⟨Nat.le_of_ble_eq_true rfl, Nat.le_of_ble_eq_true rfl⟩ ⟨Nat.le_of_ble_eq_true rfl, Nat.le_of_ble_eq_true rfl⟩ ?_
      refine aw_icmp_geN (tgt := 30) (by omega) (by omega) dX0_fixed_9 (by decide) (fun c1 => ?_) (fun c1 => ?_)
      · skip
        refine aw_iload_n dX0_fixed_30 rfl ?_
        exact aw_ireturn dX0_fixed_31 rfl ⟨r_n (by rw [hs, show i = l.length by omega]; rfl), rfl, rfl⟩ (Nat.le_of_ble_eq_true rfl) (Nat.le_of_ble_eq_true rfl)
      · skip
        refine aw_aload_n dX0_fixed_12 rfl ?_
        refine aw_iload_n dX0_fixed_13 rfl ?_
        have hci := hc.2 i c1
        have b_1 := hc.2 (i) (by omega)
        refine aw_callVR (As := [.int (nI (i))]) (rest := []) (c_X3_numberAt G hR0 (i := i) (by omega) (by omega)) kX3_numberAt w_277 f1 rfl rfl rfl rfl (Nat.le_of_ble_eq_true rfl) dX0_fixed_14 ⟨Nat.le_of_ble_eq_true rfl, Nat.le_of_ble_eq_true rfl⟩ ⟨Nat.le_of_ble_eq_true rfl, Nat.le_of_ble_eq_true rfl⟩ ?_
        refine aw_iload_n dX0_fixed_17 rfl ?_
        refine aw_icmp_neN (tgt := 24) (by omega) (by omega) dX0_fixed_18 (by decide) (fun c2 => ?_) (fun c2 => ?_)
        · skip
          refine aw_iincN (k := 1) (L' := [(2, .int (nI (i + 1))), (0, .ref (r)), (1, .int (nI (c)))]) dX0_fixed_24 (by decide) rfl (by decide) rfl ?_
          refine aw_goto (tgt := 4) dX0_fixed_27 (by decide) ?_
          refine aw_sub (L' := [(0, .ref (r)), (1, .int (nI (c))), (2, .int (nI (i + 1)))]) [1, 2, 0] rfl ?_
          exact ih c (i + 1) (by omega) (by omega) (by rw [ct_f (p := (fun i => decide (cd l i = i))) (by simp only [decide_eq_false_iff_not]; exact c2)]; exact hs)
        · skip
          refine aw_iincN (k := 1) (L' := [(1, .int (nI (c + 1))), (0, .ref (r)), (2, .int (nI (i)))]) dX0_fixed_21 (by decide) rfl (by decide) rfl ?_
          refine aw_iincN (k := 1) (L' := [(2, .int (nI (i + 1))), (1, .int (nI (c + 1))), (0, .ref (r))]) dX0_fixed_24 (by decide) rfl (by decide) rfl ?_
          refine aw_goto (tgt := 4) dX0_fixed_27 (by decide) ?_
          refine aw_sub (L' := [(0, .ref (r)), (1, .int (nI (c + 1))), (2, .int (nI (i + 1)))]) [2, 1, 0] rfl ?_
          exact ih (c + 1) (i + 1) (by omega) (by omega) (by rw [ct_t (p := (fun i => decide (cd l i = i))) (by simp only [decide_eq_true_eq]; exact c2)]; omega)
  refine aw_sub (L' := [(0, .ref (r)), (1, .int (nI (0))), (2, .int (nI (0)))]) [2, 1, 0] rfl ?_
  exact K (l.length + 1) 0 0 (by omega) (Nat.zero_le _) rfl
set_option maxHeartbeats 4000000 in
set_option maxRecDepth 20000 in
/-- rifflesNeeded(runs) -/
theorem c_X2_rifflesNeeded (G : aG) {h : aH} {nx t : Nat} (ht : t ≤ 16) : aMet G mX2_rifflesNeeded 0 0 0 [.int (nI (t))] h nx (pI (nI (ndr t)) h nx) := by
  refine aMet_of rfl (Nat.le_of_ble_eq_true rfl) ?_
  show aw G mX2_rifflesNeeded [] (aRoom 0 0 0) (aEnd G (pI (nI (ndr t)) h nx) 0 0) 0 0 h nx 0 [(0, .int (nI (t)))] []
  refine aw_ic dX2_rifflesNeeded_0 ic_0 ?_
  refine aw_istore_n (L' := [(1, .int (nI (0))), (0, .int (nI (t)))]) dX2_rifflesNeeded_1 (by decide) rfl ?_
  refine aw_iload_n dX2_rifflesNeeded_2 rfl ?_
  refine aw_bp (v := 16) dX2_rifflesNeeded_3 (by decide) ?_
  refine aw_icmp_geN (tgt := 21) (by omega) (by omega) dX2_rifflesNeeded_5 (by decide) (fun c0 => absurd c0 (by omega)) (fun c0 => ?_)
  refine aw_ic dX2_rifflesNeeded_8 ic_1 ?_
  refine aw_iload_n dX2_rifflesNeeded_9 rfl ?_
  refine aw_ishl dX2_rifflesNeeded_10 ?_
  refine aw_top (show ((nI (1)) <<< ((nI (0)) &&& 31)) = (nI (1)) from by decide) ?_
  refine aw_iload_n dX2_rifflesNeeded_11 rfl ?_
  refine aw_icmp_geN (tgt := 21) (by omega) (by omega) dX2_rifflesNeeded_12 (by decide) (fun e0 => ?_) (fun e0 => ?_)
  · skip
    refine aw_iload_n dX2_rifflesNeeded_21 rfl ?_
    exact aw_ireturn dX2_rifflesNeeded_22 rfl ⟨r_n (by unfold ndr; split <;> (try split) <;> (try split) <;> (try split) <;> omega), rfl, rfl⟩ (Nat.le_of_ble_eq_true rfl) (Nat.le_of_ble_eq_true rfl)
  · skip
    refine aw_iincN (k := 1) (L' := [(1, .int (nI (0 + 1))), (0, .int (nI (t)))]) dX2_rifflesNeeded_15 (by decide) rfl (by decide) rfl ?_
    refine aw_goto (tgt := 2) dX2_rifflesNeeded_18 (by decide) ?_
    refine aw_to ?_ (show ([(1, .int (nI (0 + 1))), (0, .int (nI (t)))] : aL) = [(1, .int (nI 1)), (0, .int (nI t))] from rfl) rfl rfl
    refine aw_iload_n dX2_rifflesNeeded_2 rfl ?_
    refine aw_bp (v := 16) dX2_rifflesNeeded_3 (by decide) ?_
    refine aw_icmp_geN (tgt := 21) (by omega) (by omega) dX2_rifflesNeeded_5 (by decide) (fun c1 => absurd c1 (by omega)) (fun c1 => ?_)
    refine aw_ic dX2_rifflesNeeded_8 ic_1 ?_
    refine aw_iload_n dX2_rifflesNeeded_9 rfl ?_
    refine aw_ishl dX2_rifflesNeeded_10 ?_
    refine aw_top (show ((nI (1)) <<< ((nI (1)) &&& 31)) = (nI (2)) from by decide) ?_
    refine aw_iload_n dX2_rifflesNeeded_11 rfl ?_
    refine aw_icmp_geN (tgt := 21) (by omega) (by omega) dX2_rifflesNeeded_12 (by decide) (fun e1 => ?_) (fun e1 => ?_)
    · skip
      refine aw_iload_n dX2_rifflesNeeded_21 rfl ?_
      exact aw_ireturn dX2_rifflesNeeded_22 rfl ⟨r_n (by unfold ndr; split <;> (try split) <;> (try split) <;> (try split) <;> omega), rfl, rfl⟩ (Nat.le_of_ble_eq_true rfl) (Nat.le_of_ble_eq_true rfl)
    · skip
      refine aw_iincN (k := 1) (L' := [(1, .int (nI (1 + 1))), (0, .int (nI (t)))]) dX2_rifflesNeeded_15 (by decide) rfl (by decide) rfl ?_
      refine aw_goto (tgt := 2) dX2_rifflesNeeded_18 (by decide) ?_
      refine aw_to ?_ (show ([(1, .int (nI (1 + 1))), (0, .int (nI (t)))] : aL) = [(1, .int (nI 2)), (0, .int (nI t))] from rfl) rfl rfl
      refine aw_iload_n dX2_rifflesNeeded_2 rfl ?_
      refine aw_bp (v := 16) dX2_rifflesNeeded_3 (by decide) ?_
      refine aw_icmp_geN (tgt := 21) (by omega) (by omega) dX2_rifflesNeeded_5 (by decide) (fun c2 => absurd c2 (by omega)) (fun c2 => ?_)
      refine aw_ic dX2_rifflesNeeded_8 ic_1 ?_
      refine aw_iload_n dX2_rifflesNeeded_9 rfl ?_
      refine aw_ishl dX2_rifflesNeeded_10 ?_
      refine aw_top (show ((nI (1)) <<< ((nI (2)) &&& 31)) = (nI (4)) from by decide) ?_
      refine aw_iload_n dX2_rifflesNeeded_11 rfl ?_
      refine aw_icmp_geN (tgt := 21) (by omega) (by omega) dX2_rifflesNeeded_12 (by decide) (fun e2 => ?_) (fun e2 => ?_)
      · skip
        refine aw_iload_n dX2_rifflesNeeded_21 rfl ?_
        exact aw_ireturn dX2_rifflesNeeded_22 rfl ⟨r_n (by unfold ndr; split <;> (try split) <;> (try split) <;> (try split) <;> omega), rfl, rfl⟩ (Nat.le_of_ble_eq_true rfl) (Nat.le_of_ble_eq_true rfl)
      · skip
        refine aw_iincN (k := 1) (L' := [(1, .int (nI (2 + 1))), (0, .int (nI (t)))]) dX2_rifflesNeeded_15 (by decide) rfl (by decide) rfl ?_
        refine aw_goto (tgt := 2) dX2_rifflesNeeded_18 (by decide) ?_
        refine aw_to ?_ (show ([(1, .int (nI (2 + 1))), (0, .int (nI (t)))] : aL) = [(1, .int (nI 3)), (0, .int (nI t))] from rfl) rfl rfl
        refine aw_iload_n dX2_rifflesNeeded_2 rfl ?_
        refine aw_bp (v := 16) dX2_rifflesNeeded_3 (by decide) ?_
        refine aw_icmp_geN (tgt := 21) (by omega) (by omega) dX2_rifflesNeeded_5 (by decide) (fun c3 => absurd c3 (by omega)) (fun c3 => ?_)
        refine aw_ic dX2_rifflesNeeded_8 ic_1 ?_
        refine aw_iload_n dX2_rifflesNeeded_9 rfl ?_
        refine aw_ishl dX2_rifflesNeeded_10 ?_
        refine aw_top (show ((nI (1)) <<< ((nI (3)) &&& 31)) = (nI (8)) from by decide) ?_
        refine aw_iload_n dX2_rifflesNeeded_11 rfl ?_
        refine aw_icmp_geN (tgt := 21) (by omega) (by omega) dX2_rifflesNeeded_12 (by decide) (fun e3 => ?_) (fun e3 => ?_)
        · skip
          refine aw_iload_n dX2_rifflesNeeded_21 rfl ?_
          exact aw_ireturn dX2_rifflesNeeded_22 rfl ⟨r_n (by unfold ndr; split <;> (try split) <;> (try split) <;> (try split) <;> omega), rfl, rfl⟩ (Nat.le_of_ble_eq_true rfl) (Nat.le_of_ble_eq_true rfl)
        · skip
          refine aw_iincN (k := 1) (L' := [(1, .int (nI (3 + 1))), (0, .int (nI (t)))]) dX2_rifflesNeeded_15 (by decide) rfl (by decide) rfl ?_
          refine aw_goto (tgt := 2) dX2_rifflesNeeded_18 (by decide) ?_
          refine aw_to ?_ (show ([(1, .int (nI (3 + 1))), (0, .int (nI (t)))] : aL) = [(1, .int (nI 4)), (0, .int (nI t))] from rfl) rfl rfl
          refine aw_iload_n dX2_rifflesNeeded_2 rfl ?_
          refine aw_bp (v := 16) dX2_rifflesNeeded_3 (by decide) ?_
          refine aw_icmp_geN (tgt := 21) (by omega) (by omega) dX2_rifflesNeeded_5 (by decide) (fun c4 => absurd c4 (by omega)) (fun c4 => ?_)
          refine aw_ic dX2_rifflesNeeded_8 ic_1 ?_
          refine aw_iload_n dX2_rifflesNeeded_9 rfl ?_
          refine aw_ishl dX2_rifflesNeeded_10 ?_
          refine aw_top (show ((nI (1)) <<< ((nI (4)) &&& 31)) = (nI (16)) from by decide) ?_
          refine aw_iload_n dX2_rifflesNeeded_11 rfl ?_
          refine aw_icmp_geN (tgt := 21) (by omega) (by omega) dX2_rifflesNeeded_12 (by decide) (fun e4 => ?_) (fun e4 => absurd e4 (by omega))
          refine aw_iload_n dX2_rifflesNeeded_21 rfl ?_
          exact aw_ireturn dX2_rifflesNeeded_22 rfl ⟨r_n (by unfold ndr; split <;> (try split) <;> (try split) <;> (try split) <;> omega), rfl, rfl⟩ (Nat.le_of_ble_eq_true rfl) (Nat.le_of_ble_eq_true rfl)
set_option maxHeartbeats 4000000 in
set_option maxRecDepth 20000 in
/-- keepsGroups(row, q) -/
theorem c_X2_keepsGroups (G : aG) {h : aH} {nx r n : Nat} {l : List Nat} (hR : RowAt h r l) (hc : cOk n l) (hn : n ≤ 16) {q : Nat} (hq : 2 ≤ q) (hq2 : q ≤ 4) : aMet G mX2_keepsGroups 2 0 0 [.ref (r), .int (nI (q))] h nx (pI (bI (grps l n q)) h nx) := by
  have hR0 := hR
  obtain ⟨f, g, f1, f2, f3, hl, hv⟩ := hR
  have e1 := hc.1
  subst e1
  refine aMet_of rfl (Nat.le_of_ble_eq_true rfl) ?_
  show aw G mX2_keepsGroups [] (aRoom 2 0 0) (aEnd G (pI (bI (grps l l.length q)) h nx) 0 0) 0 0 h nx 0 [(0, .ref (r)), (1, .int (nI (q)))] []
  refine aw_ic dX2_keepsGroups_0 ic_0 ?_
  refine aw_istore_n (L' := [(2, .int (nI (0))), (0, .ref (r)), (1, .int (nI (q)))]) dX2_keepsGroups_1 (by decide) rfl ?_
  have K : ∀ (d : Nat) (k : Nat), l.length + 8 - q * k < d → (∀ t, t < k → t < l.length → q * t + q ≤ l.length → msk l (q * t) q q = 2 ^ q - 1) → (q * k ≤ l.length + q) → aw G mX2_keepsGroups [] (aRoom 2 0 0) (aEnd G (pI (bI (grps l l.length q)) h nx) 0 0) 0 0 h nx 2 [(0, .ref (r)), (1, .int (nI (q))), (2, .int (nI (q * k)))] [] := by
    intro d
    induction d with
    | zero => intro k hMd; exact absurd hMd (Nat.not_lt_zero _)
    | succ d ih =>
      intro k hMd ha hk
      have hmul : q * (k + 1) = q * k + q := Nat.mul_succ q k
      have hkk : 2 * k ≤ q * k := Nat.mul_le_mul_right k hq
      refine aw_iload_n dX2_keepsGroups_2 rfl ?_
      refine aw_iload_n dX2_keepsGroups_3 rfl ?_
      refine aw_iaddN dX2_keepsGroups_4 ?_
      refine aw_aload_n dX2_keepsGroups_5 rfl ?_
      refine aw_callVR (As := []) (rest := [.int (nI ((q * k) + q))]) (c_X3_size G hR0) kX3_size w_229 f1 rfl rfl rfl rfl (Nat.le_of_ble_eq_true rfl) dX2_keepsGroups_6 ⟨Nat.le_of_ble_eq_true rfl, Nat.le_of_ble_eq_true rfl⟩ ⟨Nat.le_of_ble_eq_true rfl, Nat.le_of_ble_eq_true rfl⟩ ?_
      refine aw_icmp_gtN (tgt := 62) (by omega) (by omega) dX2_keepsGroups_9 (by decide) (fun c1 => ?_) (fun c1 => ?_)
      · skip
        refine aw_ic dX2_keepsGroups_62 ic_1 ?_
        refine aw_to ?_ rfl rfl rfl
        exact aw_zreturn dX2_keepsGroups_63 rfl (bI_nar true) ⟨r_t (decide_eq_true (fun t h1 h2 => ha t (by apply Nat.lt_of_not_le; intro h9; have := Nat.mul_le_mul_left q h9; omega) h1 h2)), rfl, rfl⟩ (Nat.le_of_ble_eq_true rfl) (Nat.le_of_ble_eq_true rfl)
      · skip
        refine aw_ic dX2_keepsGroups_12 ic_0 ?_
        refine aw_istore_n (L' := [(3, .int (nI (0))), (0, .ref (r)), (1, .int (nI (q))), (2, .int (nI (q * k)))]) dX2_keepsGroups_13 (by decide) rfl ?_
        refine aw_ic dX2_keepsGroups_14 ic_0 ?_
        refine aw_istore (L' := [(4, .int (nI (0))), (3, .int (nI (0))), (0, .ref (r)), (1, .int (nI (q))), (2, .int (nI (q * k)))]) dX2_keepsGroups_15 (by decide) rfl ?_
        have ihO := ih
        have K2 : ∀ (d : Nat) (m i : Nat), q - i < d → (i ≤ q) → (m = msk l (q * k) q i) → aw G mX2_keepsGroups [] (aRoom 2 0 0) (aEnd G (pI (bI (grps l l.length q)) h nx) 0 0) 0 0 h nx 17 [(0, .ref (r)), (1, .int (nI (q))), (2, .int (nI (q * k))), (3, .int (nI (m))), (4, .int (nI (i)))] [] := by
          intro d
          induction d with
          | zero => intro m i hMd; exact absurd hMd (Nat.not_lt_zero _)
          | succ d ih =>
            intro m i hMd hi hm
            refine aw_iload dX2_keepsGroups_17 rfl ?_
            refine aw_iload_n dX2_keepsGroups_19 rfl ?_
            refine aw_icmp_geN (tgt := 44) (by omega) (by omega) dX2_keepsGroups_20 (by decide) (fun c2 => ?_) (fun c2 => ?_)
            · skip
              have hml := msk_lt (l := l) (s := q * k) (g := q) (by omega) i
              have e2 : i = q := by omega
              rw [e2] at hm
              have hmlq := msk_lt (l := l) (s := q * k) (g := q) (by omega) q
              have hp : 4 ≤ 2 ^ q ∧ 2 ^ q ≤ 16 := by rcases (show q = 2 ∨ q = 3 ∨ q = 4 by omega) with rfl | rfl | rfl <;> decide
              refine aw_iload_n dX2_keepsGroups_44 rfl ?_
              refine aw_ic dX2_keepsGroups_45 ic_1 ?_
              refine aw_iload_n dX2_keepsGroups_46 rfl ?_
              refine aw_ishl dX2_keepsGroups_47 ?_
              refine aw_top (show ((nI (1)) <<< ((nI (q)) &&& 31)) = (nI (2 ^ q)) from n_shl1 q (by omega)) ?_
              refine aw_ic dX2_keepsGroups_48 ic_1 ?_
              refine aw_isubN (by omega) dX2_keepsGroups_49 ?_
              refine aw_icmp_eqN (tgt := 55) (by omega) (by omega) dX2_keepsGroups_50 (by decide) (fun c3 => ?_) (fun c3 => ?_)
              · skip
                refine aw_iload_n dX2_keepsGroups_55 rfl ?_
                refine aw_iload_n dX2_keepsGroups_56 rfl ?_
                refine aw_iaddN dX2_keepsGroups_57 ?_
                refine aw_istore_n (L' := [(2, .int (nI ((q * k) + q))), (0, .ref (r)), (1, .int (nI (q))), (3, .int (nI (m))), (4, .int (nI (i)))]) dX2_keepsGroups_58 (by decide) rfl ?_
                refine aw_goto (tgt := 2) dX2_keepsGroups_59 (by decide) ?_
                rw [← hmul]
                refine aw_sub (L' := [(0, .ref (r)), (1, .int (nI (q))), (2, .int (nI (q * (k + 1))))]) [1, 2, 0] rfl ?_
                exact ihO (k + 1) (by omega) (by intro t h1 h2 h3; rcases Nat.lt_or_ge t k with h | h; exact ha t h h2 h3; rw [show t = k by omega, ← hm]; exact c3) (by omega)
              · skip
                refine aw_ic dX2_keepsGroups_53 ic_0 ?_
                exact aw_zreturn dX2_keepsGroups_54 rfl (bI_nar false) ⟨r_f (decide_eq_false (fun h => c3 (by rw [hm]; exact h k (by omega) (by omega)))), rfl, rfl⟩ (Nat.le_of_ble_eq_true rfl) (Nat.le_of_ble_eq_true rfl)
            · skip
              refine aw_iload_n dX2_keepsGroups_23 rfl ?_
              refine aw_ic dX2_keepsGroups_24 ic_1 ?_
              refine aw_aload_n dX2_keepsGroups_25 rfl ?_
              refine aw_iload_n dX2_keepsGroups_26 rfl ?_
              refine aw_iload dX2_keepsGroups_27 rfl ?_
              refine aw_iaddN dX2_keepsGroups_29 ?_
              have b_1 := hc.2 (q * k + i) (by omega)
              refine aw_callVR (As := [.int (nI ((q * k) + i))]) (rest := [.int (nI (1)), .int (nI (m))]) (c_X3_numberAt G hR0 (i := q * k + i) (by omega) (by omega)) kX3_numberAt w_299 f1 rfl rfl rfl rfl (Nat.le_of_ble_eq_true rfl) dX2_keepsGroups_30 ⟨Nat.le_of_ble_eq_true rfl, Nat.le_of_ble_eq_true rfl⟩ ⟨Nat.le_of_ble_eq_true rfl, Nat.le_of_ble_eq_true rfl⟩ ?_
              refine aw_iload_n dX2_keepsGroups_33 rfl ?_
              refine aw_iremN (by omega) (by omega) (by omega) dX2_keepsGroups_34 ?_
              have hrm : l.getD (q * k + i) 0 / 2 % q < q := Nat.mod_lt _ (by omega)
              refine aw_ishl dX2_keepsGroups_35 ?_
              refine aw_top (show ((nI (1)) <<< ((nI ((l.getD (q * k + i) 0 / 2) % q)) &&& 31)) = (nI (2 ^ (l.getD (q * k + i) 0 / 2 % q))) from n_shl1 _ (by omega)) ?_
              refine aw_ior dX2_keepsGroups_36 ?_
              refine aw_top (show ((nI (m)) ||| (nI (2 ^ (l.getD (q * k + i) 0 / 2 % q)))) = (nI (m ||| 2 ^ (l.getD (q * k + i) 0 / 2 % q))) from n_or _ _) ?_
              refine aw_istore_n (L' := [(3, .int (nI (m ||| 2 ^ (l.getD (q * k + i) 0 / 2 % q)))), (0, .ref (r)), (1, .int (nI (q))), (2, .int (nI (q * k))), (4, .int (nI (i)))]) dX2_keepsGroups_37 (by decide) rfl ?_
              refine aw_iincN (k := 1) (L' := [(4, .int (nI (i + 1))), (3, .int (nI (m ||| 2 ^ (l.getD (q * k + i) 0 / 2 % q)))), (0, .ref (r)), (1, .int (nI (q))), (2, .int (nI (q * k)))]) dX2_keepsGroups_38 (by decide) rfl (by decide) rfl ?_
              refine aw_goto (tgt := 17) dX2_keepsGroups_41 (by decide) ?_
              refine aw_sub (L' := [(0, .ref (r)), (1, .int (nI (q))), (2, .int (nI (q * k))), (3, .int (nI (m ||| 2 ^ (l.getD (q * k + i) 0 / 2 % q)))), (4, .int (nI (i + 1)))]) [2, 3, 4, 1, 0] rfl ?_
              exact ih _ (i + 1) (by omega) (by omega) (by rw [hm]; rfl)
        refine aw_sub (L' := [(0, .ref (r)), (1, .int (nI (q))), (2, .int (nI (q * k))), (3, .int (nI (0))), (4, .int (nI (0)))]) [2, 3, 4, 1, 0] rfl ?_
        exact K2 (q + 1) 0 0 (by omega) (Nat.zero_le _) rfl
  refine aw_sub (L' := [(0, .ref (r)), (1, .int (nI (q))), (2, .int (nI (0)))]) [1, 2, 0] rfl ?_
  exact K (l.length + 9) 0 (by omega) (fun t h => absurd h (Nat.not_lt_zero _)) (by omega)
set_option maxHeartbeats 4000000 in
set_option maxRecDepth 20000 in
/-- isWhole -/
theorem c_X2_isWhole (G : aG) {h : aH} {nx r n : Nat} {l : List Nat} (hR : RowAt h r l) (hc : cOk n l) (hn : n ≤ 16) (h0 : 0 < n) : aMet G mX2_isWhole 2 0 0 [.ref (r)] h nx (pI (bI (whol l n)) h nx) := by
  have hR0 := hR
  obtain ⟨f, g, f1, f2, f3, hl, hv⟩ := hR
  have e1 := hc.1
  subst e1
  refine aMet_of rfl (Nat.le_of_ble_eq_true rfl) ?_
  show aw G mX2_isWhole [] (aRoom 2 0 0) (aEnd G (pI (bI (whol l l.length)) h nx) 0 0) 0 0 h nx 0 [(0, .ref (r))] []
  refine aw_aload_n dX2_isWhole_0 rfl ?_
  refine aw_ic dX2_isWhole_1 ic_0 ?_
  have b_1 := hc.2 (0) (by omega)
  refine aw_callVR (As := [.int (nI (0))]) (rest := []) (c_X3_numberAt G hR0 (i := 0) (by omega) (by omega)) kX3_numberAt w_299 f1 rfl rfl rfl rfl (Nat.le_of_ble_eq_true rfl) dX2_isWhole_2 ⟨Nat.le_of_ble_eq_true rfl, Nat.le_of_ble_eq_true rfl⟩ ⟨Nat.le_of_ble_eq_true rfl, Nat.le_of_ble_eq_true rfl⟩ ?_
  refine aw_istore_n (L' := [(1, .int (nI (l.getD (0) 0 / 2))), (0, .ref (r))]) dX2_isWhole_5 (by decide) rfl ?_
  refine aw_iload_n dX2_isWhole_6 rfl ?_
  refine aw_istore_n (L' := [(2, .int (nI (l.getD (0) 0 / 2))), (1, .int (nI (l.getD (0) 0 / 2))), (0, .ref (r))]) dX2_isWhole_7 (by decide) rfl ?_
  refine aw_ic dX2_isWhole_8 ic_1 ?_
  refine aw_istore_n (L' := [(3, .int (nI (1))), (2, .int (nI (l.getD (0) 0 / 2))), (1, .int (nI (l.getD (0) 0 / 2))), (0, .ref (r))]) dX2_isWhole_9 (by decide) rfl ?_
  have K : ∀ (d : Nat) (a b i : Nat), l.length - i < d → (1 ≤ i ∧ i ≤ l.length) → (a = mnp l (i - 1)) → (b = mxp l (i - 1)) → (∀ k, k < i → mxp l k - mnp l k = k) → aw G mX2_isWhole [] (aRoom 2 0 0) (aEnd G (pI (bI (whol l l.length)) h nx) 0 0) 0 0 h nx 10 [(0, .ref (r)), (1, .int (nI (a))), (2, .int (nI (b))), (3, .int (nI (i)))] [] := by
    intro d
    induction d with
    | zero => intro a b i hMd; exact absurd hMd (Nat.not_lt_zero _)
    | succ d ih =>
      intro a b i hMd hi hA hB ha
      have q1 := mnp_le (l := l) (i - 1)
      have q2 := mxp_lt hc (i - 1) (by omega)
      refine aw_iload_n dX2_isWhole_10 rfl ?_
      refine aw_aload_n dX2_isWhole_11 rfl ?_
      refine aw_callVR (As := []) (rest := [.int (nI (i))]) (c_X3_size G hR0) kX3_size w_229 f1 rfl rfl rfl rfl (Nat.le_of_ble_eq_true rfl) dX2_isWhole_12 ⟨Nat.le_of_ble_eq_true rfl, Nat.le_of_ble_eq_true rfl⟩ ⟨Nat.le_of_ble_eq_true rfl, Nat.le_of_ble_eq_true rfl⟩ ?_
      refine aw_icmp_geN (tgt := 53) (by omega) (by omega) dX2_isWhole_15 (by decide) (fun c1 => ?_) (fun c1 => ?_)
      · skip
        refine aw_ic dX2_isWhole_53 ic_1 ?_
        exact aw_zreturn dX2_isWhole_54 rfl (bI_nar true) ⟨r_t (decide_eq_true (fun k hk => ha k (by omega))), rfl, rfl⟩ (Nat.le_of_ble_eq_true rfl) (Nat.le_of_ble_eq_true rfl)
      · skip
        have hci := hc.2 i c1
        have q3 := mnp_le (l := l) i
        have q4 := mxp_lt hc i c1
        have u1 : min a (l.getD i 0 / 2) = mnp l i := by obtain ⟨j, rfl⟩ : ∃ j, i = j + 1 := ⟨i - 1, by omega⟩; rw [hA]; rfl
        have u2 : max b (l.getD i 0 / 2) = mxp l i := by obtain ⟨j, rfl⟩ : ∃ j, i = j + 1 := ⟨i - 1, by omega⟩; rw [hB]; rfl
        refine aw_iload_n dX2_isWhole_18 rfl ?_
        refine aw_aload_n dX2_isWhole_19 rfl ?_
        refine aw_iload_n dX2_isWhole_20 rfl ?_
        have b_2 := hc.2 (i) (by omega)
        refine aw_callVR (As := [.int (nI (i))]) (rest := [.int (nI (a))]) (c_X3_numberAt G hR0 (i := i) (by omega) (by omega)) kX3_numberAt w_299 f1 rfl rfl rfl rfl (Nat.le_of_ble_eq_true rfl) dX2_isWhole_21 ⟨Nat.le_of_ble_eq_true rfl, Nat.le_of_ble_eq_true rfl⟩ ⟨Nat.le_of_ble_eq_true rfl, Nat.le_of_ble_eq_true rfl⟩ ?_
        refine aw_min w_336 w_282 w_16 w_283 (Nat.le_of_ble_eq_true rfl) (Nat.le_of_ble_eq_true rfl) (Nat.le_of_ble_eq_true rfl) (Nat.le_of_ble_eq_true rfl) dX2_isWhole_24 ?_
        refine aw_top (show (if (nI (l.getD (i) 0 / 2)) < (nI (a)) then (nI (l.getD (i) 0 / 2)) else (nI (a))) = (nI (mnp l i)) from by rw [n_min _ _ (by omega) (by omega), u1]) ?_
        refine aw_istore_n (L' := [(1, .int (nI (mnp l i))), (0, .ref (r)), (2, .int (nI (b))), (3, .int (nI (i)))]) dX2_isWhole_27 (by decide) rfl ?_
        refine aw_iload_n dX2_isWhole_28 rfl ?_
        refine aw_aload_n dX2_isWhole_29 rfl ?_
        refine aw_iload_n dX2_isWhole_30 rfl ?_
        have b_3 := hc.2 (i) (by omega)
        refine aw_callVR (As := [.int (nI (i))]) (rest := [.int (nI (b))]) (c_X3_numberAt G hR0 (i := i) (by omega) (by omega)) kX3_numberAt w_299 f1 rfl rfl rfl rfl (Nat.le_of_ble_eq_true rfl) dX2_isWhole_31 ⟨Nat.le_of_ble_eq_true rfl, Nat.le_of_ble_eq_true rfl⟩ ⟨Nat.le_of_ble_eq_true rfl, Nat.le_of_ble_eq_true rfl⟩ ?_
        refine aw_max w_337 w_315 w_16 w_316 (Nat.le_of_ble_eq_true rfl) (Nat.le_of_ble_eq_true rfl) (Nat.le_of_ble_eq_true rfl) (Nat.le_of_ble_eq_true rfl) dX2_isWhole_34 ?_
        refine aw_top (show (if (nI (b)) < (nI (l.getD (i) 0 / 2)) then (nI (l.getD (i) 0 / 2)) else (nI (b))) = (nI (mxp l i)) from by rw [n_max _ _ (by omega) (by omega), u2]) ?_
        refine aw_istore_n (L' := [(2, .int (nI (mxp l i))), (1, .int (nI (mnp l i))), (0, .ref (r)), (3, .int (nI (i)))]) dX2_isWhole_37 (by decide) rfl ?_
        refine aw_iload_n dX2_isWhole_38 rfl ?_
        refine aw_iload_n dX2_isWhole_39 rfl ?_
        refine aw_isubN (by omega) dX2_isWhole_40 ?_
        refine aw_iload_n dX2_isWhole_41 rfl ?_
        refine aw_icmp_eqN (tgt := 47) (by omega) (by omega) dX2_isWhole_42 (by decide) (fun c2 => ?_) (fun c2 => ?_)
        · skip
          refine aw_iincN (k := 1) (L' := [(3, .int (nI (i + 1))), (2, .int (nI (mxp l i))), (1, .int (nI (mnp l i))), (0, .ref (r))]) dX2_isWhole_47 (by decide) rfl (by decide) rfl ?_
          refine aw_goto (tgt := 10) dX2_isWhole_50 (by decide) ?_
          refine aw_sub (L' := [(0, .ref (r)), (1, .int (nI (mnp l i))), (2, .int (nI (mxp l i))), (3, .int (nI (i + 1)))]) [3, 2, 1, 0] rfl ?_
          exact ih _ _ (i + 1) (by omega) (by omega) rfl rfl (le_s ha c2)
        · skip
          refine aw_ic dX2_isWhole_45 ic_0 ?_
          exact aw_zreturn dX2_isWhole_46 rfl (bI_nar false) ⟨r_f (decide_eq_false (fun h => c2 (h i c1))), rfl, rfl⟩ (Nat.le_of_ble_eq_true rfl) (Nat.le_of_ble_eq_true rfl)
  refine aw_sub (L' := [(0, .ref (r)), (1, .int (nI (l.getD (0) 0 / 2))), (2, .int (nI (l.getD (0) 0 / 2))), (3, .int (nI (1)))]) [3, 2, 1, 0] rfl ?_
  exact K (l.length + 1) _ _ 1 (by omega) (by omega) rfl rfl (fun k hk => by rw [show k = 0 by omega]; simp [mxp, mnp])
set_option maxHeartbeats 4000000 in
set_option maxRecDepth 20000 in
/-- isMirrored -/
theorem c_X2_isMirrored (G : aG) {h : aH} {nx r n : Nat} {l : List Nat} (hR : RowAt h r l) (hc : cOk n l) (hn : n ≤ 16) (h0 : 0 < n) : aMet G mX2_isMirrored 2 0 0 [.ref (r)] h nx (pI (bI (mirr l n)) h nx) := by
  have hR0 := hR
  obtain ⟨f, g, f1, f2, f3, hl, hv⟩ := hR
  have e1 := hc.1
  subst e1
  refine aMet_of rfl (Nat.le_of_ble_eq_true rfl) ?_
  show aw G mX2_isMirrored [] (aRoom 2 0 0) (aEnd G (pI (bI (mirr l l.length)) h nx) 0 0) 0 0 h nx 0 [(0, .ref (r))] []
  refine aw_aload_n dX2_isMirrored_0 rfl ?_
  refine aw_callVR (As := []) (rest := []) (c_X3_size G hR0) kX3_size w_229 f1 rfl rfl rfl rfl (Nat.le_of_ble_eq_true rfl) dX2_isMirrored_1 ⟨Nat.le_of_ble_eq_true rfl, Nat.le_of_ble_eq_true rfl⟩ ⟨Nat.le_of_ble_eq_true rfl, Nat.le_of_ble_eq_true rfl⟩ ?_
  refine aw_ic dX2_isMirrored_4 ic_1 ?_
  refine aw_isubN (by omega) dX2_isMirrored_5 ?_
  refine aw_istore_n (L' := [(1, .int (nI (l.length - 1))), (0, .ref (r))]) dX2_isMirrored_6 (by decide) rfl ?_
  refine aw_ic dX2_isMirrored_7 ic_0 ?_
  refine aw_istore_n (L' := [(2, .int (nI (0))), (1, .int (nI (l.length - 1))), (0, .ref (r))]) dX2_isMirrored_8 (by decide) rfl ?_
  have K : ∀ (d : Nat) (i : Nat), l.length - i < d → (i ≤ l.length) → (∀ k, k < i → cd l k + cd l (l.length - 1 - k) = l.length - 1) → aw G mX2_isMirrored [] (aRoom 2 0 0) (aEnd G (pI (bI (mirr l l.length)) h nx) 0 0) 0 0 h nx 9 [(0, .ref (r)), (1, .int (nI (l.length - 1))), (2, .int (nI (i)))] [] := by
    intro d
    induction d with
    | zero => intro i hMd; exact absurd hMd (Nat.not_lt_zero _)
    | succ d ih =>
      intro i hMd hi ha
      refine aw_iload_n dX2_isMirrored_9 rfl ?_
      refine aw_iload_n dX2_isMirrored_10 rfl ?_
      refine aw_icmp_gtN (tgt := 39) (by omega) (by omega) dX2_isMirrored_11 (by decide) (fun c1 => ?_) (fun c1 => ?_)
      · skip
        refine aw_ic dX2_isMirrored_39 ic_1 ?_
        exact aw_zreturn dX2_isMirrored_40 rfl (bI_nar true) ⟨r_t (decide_eq_true (fun k hk => ha k (by omega))), rfl, rfl⟩ (Nat.le_of_ble_eq_true rfl) (Nat.le_of_ble_eq_true rfl)
      · skip
        have hci := hc.2 i (by omega)
        have hcj := hc.2 (l.length - 1 - i) (by omega)
        refine aw_aload_n dX2_isMirrored_14 rfl ?_
        refine aw_iload_n dX2_isMirrored_15 rfl ?_
        have b_1 := hc.2 (i) (by omega)
        refine aw_callVR (As := [.int (nI (i))]) (rest := []) (c_X3_numberAt G hR0 (i := i) (by omega) (by omega)) kX3_numberAt w_299 f1 rfl rfl rfl rfl (Nat.le_of_ble_eq_true rfl) dX2_isMirrored_16 ⟨Nat.le_of_ble_eq_true rfl, Nat.le_of_ble_eq_true rfl⟩ ⟨Nat.le_of_ble_eq_true rfl, Nat.le_of_ble_eq_true rfl⟩ ?_
        refine aw_aload_n dX2_isMirrored_19 rfl ?_
        refine aw_iload_n dX2_isMirrored_20 rfl ?_
        refine aw_iload_n dX2_isMirrored_21 rfl ?_
        refine aw_isubN (by omega) dX2_isMirrored_22 ?_
        have b_2 := hc.2 (l.length - 1 - i) (by omega)
        refine aw_callVR (As := [.int (nI ((l.length - 1) - i))]) (rest := [.int (nI (l.getD (i) 0 / 2))]) (c_X3_numberAt G hR0 (i := l.length - 1 - i) (by omega) (by omega)) kX3_numberAt w_299 f1 rfl rfl rfl rfl (Nat.le_of_ble_eq_true rfl) dX2_isMirrored_23 ⟨Nat.le_of_ble_eq_true rfl, Nat.le_of_ble_eq_true rfl⟩ ⟨Nat.le_of_ble_eq_true rfl, Nat.le_of_ble_eq_true rfl⟩ ?_
        refine aw_iaddN dX2_isMirrored_26 ?_
        refine aw_iload_n dX2_isMirrored_27 rfl ?_
        refine aw_icmp_eqN (tgt := 33) (by omega) (by omega) dX2_isMirrored_28 (by decide) (fun c2 => ?_) (fun c2 => ?_)
        · skip
          refine aw_iincN (k := 1) (L' := [(2, .int (nI (i + 1))), (0, .ref (r)), (1, .int (nI (l.length - 1)))]) dX2_isMirrored_33 (by decide) rfl (by decide) rfl ?_
          refine aw_goto (tgt := 9) dX2_isMirrored_36 (by decide) ?_
          refine aw_sub (L' := [(0, .ref (r)), (1, .int (nI (l.length - 1))), (2, .int (nI (i + 1)))]) [1, 2, 0] rfl ?_
          exact ih (i + 1) (by omega) (by omega) (le_s ha c2)
        · skip
          refine aw_ic dX2_isMirrored_31 ic_0 ?_
          exact aw_zreturn dX2_isMirrored_32 rfl (bI_nar false) ⟨r_f (decide_eq_false (fun h => c2 (h i (by omega)))), rfl, rfl⟩ (Nat.le_of_ble_eq_true rfl) (Nat.le_of_ble_eq_true rfl)
  refine aw_sub (L' := [(0, .ref (r)), (1, .int (nI (l.length - 1))), (2, .int (nI (0)))]) [2, 1, 0] rfl ?_
  exact K (l.length + 1) 0 (by omega) (Nat.zero_le _) (fun k hk => absurd hk (Nat.not_lt_zero _))
set_option maxHeartbeats 4000000 in
set_option maxRecDepth 20000 in
/-- placesFrom(row, a) -/
theorem c_X2_placesFrom (G : aG) {h : aH} {nx r n : Nat} {l : List Nat} (hR : RowAt h r l) (hc : cOk n l) (hn : n ≤ 16) {a : Nat} (ha : a ≤ 16) : aMet G mX2_placesFrom 2 0 0 [.ref (r), .int (nI (a))] h nx (pI (nI (plf l a n)) h nx) := by
  have hR0 := hR
  obtain ⟨f, g, f1, f2, f3, hl, hv⟩ := hR
  have e1 := hc.1
  subst e1
  refine aMet_of rfl (Nat.le_of_ble_eq_true rfl) ?_
  show aw G mX2_placesFrom [] (aRoom 2 0 0) (aEnd G (pI (nI (plf l a l.length)) h nx) 0 0) 0 0 h nx 0 [(0, .ref (r)), (1, .int (nI (a)))] []
  refine aw_ic dX2_placesFrom_0 ic_0 ?_
  refine aw_istore_n (L' := [(2, .int (nI (0))), (0, .ref (r)), (1, .int (nI (a)))]) dX2_placesFrom_1 (by decide) rfl ?_
  refine aw_ic dX2_placesFrom_2 ic_0 ?_
  refine aw_istore_n (L' := [(3, .int (nI (0))), (2, .int (nI (0))), (0, .ref (r)), (1, .int (nI (a)))]) dX2_placesFrom_3 (by decide) rfl ?_
  have K : ∀ (d : Nat) (m i : Nat), l.length - i < d → (i ≤ l.length) → (m = plf l a i) → aw G mX2_placesFrom [] (aRoom 2 0 0) (aEnd G (pI (nI (plf l a l.length)) h nx) 0 0) 0 0 h nx 4 [(0, .ref (r)), (1, .int (nI (a))), (2, .int (nI (m))), (3, .int (nI (i)))] [] := by
    intro d
    induction d with
    | zero => intro m i hMd; exact absurd hMd (Nat.not_lt_zero _)
    | succ d ih =>
      intro m i hMd hi hm
      refine aw_iload_n dX2_placesFrom_4 rfl ?_
      refine aw_aload_n dX2_placesFrom_5 rfl ?_
      refine aw_callVR (As := []) (rest := [.int (nI (i))]) (c_X3_size G hR0) kX3_size w_229 f1 rfl rfl rfl rfl (Nat.le_of_ble_eq_true rfl) dX2_placesFrom_6 ⟨Nat.le_of_ble_eq_true rfl, Nat.le_of_ble_eq_true rfl⟩ ⟨Nat.le_of_ble_eq_true rfl, Nat.le_of_ble_eq_true rfl⟩ ?_
      refine aw_icmp_geN (tgt := 33) (by omega) (by omega) dX2_placesFrom_9 (by decide) (fun c1 => ?_) (fun c1 => ?_)
      · skip
        refine aw_iload_n dX2_placesFrom_33 rfl ?_
        exact aw_ireturn dX2_placesFrom_34 rfl ⟨r_n (by rw [hm, show i = l.length by omega]), rfl, rfl⟩ (Nat.le_of_ble_eq_true rfl) (Nat.le_of_ble_eq_true rfl)
      · skip
        have hci := hc.2 i c1
        refine aw_aload_n dX2_placesFrom_12 rfl ?_
        refine aw_iload_n dX2_placesFrom_13 rfl ?_
        have b_1 := hc.2 (i) (by omega)
        refine aw_callVR (As := [.int (nI (i))]) (rest := []) (c_X3_numberAt G hR0 (i := i) (by omega) (by omega)) kX3_numberAt w_299 f1 rfl rfl rfl rfl (Nat.le_of_ble_eq_true rfl) dX2_placesFrom_14 ⟨Nat.le_of_ble_eq_true rfl, Nat.le_of_ble_eq_true rfl⟩ ⟨Nat.le_of_ble_eq_true rfl, Nat.le_of_ble_eq_true rfl⟩ ?_
        refine aw_iload_n dX2_placesFrom_17 rfl ?_
        refine aw_icmp_ltN (tgt := 27) (by omega) (by omega) dX2_placesFrom_18 (by decide) (fun c2 => ?_) (fun c2 => ?_)
        · skip
          refine aw_iincN (k := 1) (L' := [(3, .int (nI (i + 1))), (0, .ref (r)), (1, .int (nI (a))), (2, .int (nI (m)))]) dX2_placesFrom_27 (by decide) rfl (by decide) rfl ?_
          refine aw_goto (tgt := 4) dX2_placesFrom_30 (by decide) ?_
          refine aw_sub (L' := [(0, .ref (r)), (1, .int (nI (a))), (2, .int (nI (m))), (3, .int (nI (i + 1)))]) [1, 2, 3, 0] rfl ?_
          exact ih m (i + 1) (by omega) (by omega) (by rw [hm]; simp only [plf, cd]; rw [if_neg (by omega), Nat.or_zero])
        · skip
          refine aw_iload_n dX2_placesFrom_21 rfl ?_
          refine aw_ic dX2_placesFrom_22 ic_1 ?_
          refine aw_iload_n dX2_placesFrom_23 rfl ?_
          refine aw_ishl dX2_placesFrom_24 ?_
          refine aw_top (show ((nI (1)) <<< ((nI (i)) &&& 31)) = (nI (2 ^ i)) from n_shl1 i (by omega)) ?_
          refine aw_ior dX2_placesFrom_25 ?_
          refine aw_top (show ((nI (m)) ||| (nI (2 ^ i))) = (nI (m ||| 2 ^ i)) from n_or _ _) ?_
          refine aw_istore_n (L' := [(2, .int (nI (m ||| 2 ^ i))), (0, .ref (r)), (1, .int (nI (a))), (3, .int (nI (i)))]) dX2_placesFrom_26 (by decide) rfl ?_
          refine aw_iincN (k := 1) (L' := [(3, .int (nI (i + 1))), (2, .int (nI (m ||| 2 ^ i))), (0, .ref (r)), (1, .int (nI (a)))]) dX2_placesFrom_27 (by decide) rfl (by decide) rfl ?_
          refine aw_goto (tgt := 4) dX2_placesFrom_30 (by decide) ?_
          refine aw_sub (L' := [(0, .ref (r)), (1, .int (nI (a))), (2, .int (nI (m ||| 2 ^ i))), (3, .int (nI (i + 1)))]) [2, 3, 1, 0] rfl ?_
          exact ih _ (i + 1) (by omega) (by omega) (by rw [hm]; simp only [plf, cd]; rw [if_pos (by omega)])
  refine aw_sub (L' := [(0, .ref (r)), (1, .int (nI (a))), (2, .int (nI (0))), (3, .int (nI (0)))]) [2, 3, 1, 0] rfl ?_
  exact K (l.length + 1) 0 0 (by omega) (Nat.zero_le _) rfl
