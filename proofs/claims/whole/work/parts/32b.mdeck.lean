set_option maxHeartbeats 4000000 in
set_option maxRecDepth 20000 in
/-- size() -/
theorem c_X7_size (G : aG) {h : aH} {nx dk a b n sc : Nat} {l : List Nat} (hC : CardsAt h dk a b l sc) (hc : cOk n l) (hn : n ≤ 16)  : aMet G mX7_size 0 0 0 [.ref (dk)] h nx (pI (nI l.length) h nx) := by
  refine aMet_of rfl (Nat.le_of_ble_eq_true rfl) ?_
  show aw G mX7_size [] (aRoom 0 0 0) (aEnd G (pI (nI l.length) h nx) 0 0) 0 0 h nx 0 [(0, .ref (dk))] []
  obtain ⟨y_1f, y_1g, y_11, y_12, y_13, y_1v⟩ := hC
  refine aw_aload_n dX7_size_0 rfl ?_
  refine aw_get 0 y_11 rfl rfl (by decide) w_773 rfl dX7_size_1 ?_
  refine aw_lenI y_12 dX7_size_4 ?_
  exact aw_ireturn dX7_size_5 rfl ⟨rfl, rfl, rfl⟩ (Nat.le_of_ble_eq_true rfl) (Nat.le_of_ble_eq_true rfl)
set_option maxHeartbeats 4000000 in
set_option maxRecDepth 20000 in
/-- find(x) -/
theorem c_X7_find (G : aG) {h : aH} {nx dk a b n sc : Nat} {l : List Nat} (hC : CardsAt h dk a b l sc) (hc : cOk n l) (hn : n ≤ 16) {x : Nat} (hx : ∃ j, j < l.length ∧ l.getD j 0 / 2 = x) : aMet G mX7_find 0 0 0 [.ref (dk), .int (nI (x))] h nx (pI (nI (ixOf l x)) h nx) := by
  obtain ⟨j, hj, hjx⟩ := hx
  have hxn := hc.2 j hj
  have hln := hc.1
  refine aMet_of rfl (Nat.le_of_ble_eq_true rfl) ?_
  show aw G mX7_find [] (aRoom 0 0 0) (aEnd G (pI (nI (ixOf l x)) h nx) 0 0) 0 0 h nx 0 [(0, .ref (dk)), (1, .int (nI (x)))] []
  obtain ⟨y_1f, y_1g, y_11, y_12, y_13, y_1v⟩ := hC
  refine aw_ic dX7_find_0 ic_0 ?_
  refine aw_istore_n (L' := [(2, .int (nI (0))), (0, .ref (dk)), (1, .int (nI (x)))]) dX7_find_1 (by decide) rfl ?_
  have K : ∀ (d : Nat) (i : Nat), l.length - i < d → (i < l.length) → (∀ k, k < i → l.getD k 0 / 2 ≠ x) → aw G mX7_find [] (aRoom 0 0 0) (aEnd G (pI (nI (ixOf l x)) h nx) 0 0) 0 0 h nx 2 [(0, .ref (dk)), (1, .int (nI (x))), (2, .int (nI (i)))] [] := by
    intro d
    induction d with
    | zero => intro i hMd; exact absurd hMd (Nat.not_lt_zero _)
    | succ d ih =>
      intro i hMd hi ha
      have hci := hc.2 i hi
      refine aw_aload_n dX7_find_2 rfl ?_
      refine aw_get 0 y_11 rfl rfl (by decide) w_773 rfl dX7_find_3 ?_
      refine aw_iload_n dX7_find_6 rfl ?_
      refine aw_iaload y_12 (by omega) (by omega) dX7_find_7 ?_
      refine aw_top (show (y_1f i) = (nI (l.getD i 0 / 2)) from (y_1v i hi).1) ?_
      refine aw_iload_n dX7_find_8 rfl ?_
      refine aw_icmp_eqN (tgt := 18) (by omega) (by omega) dX7_find_9 (by decide) (fun c2 => ?_) (fun c2 => ?_)
      · skip
        refine aw_iload_n dX7_find_18 rfl ?_
        exact aw_ireturn dX7_find_19 rfl ⟨r_n (ixOf_eq hi c2 ha).symm, rfl, rfl⟩ (Nat.le_of_ble_eq_true rfl) (Nat.le_of_ble_eq_true rfl)
      · skip
        have hne : i ≠ j := fun z => c2 (by rw [z]; exact hjx)
        have hij : i < j := by rcases Nat.lt_or_gt_of_ne hne with z | z; exact z; exact absurd hjx (ha j z)
        refine aw_iincN (k := 1) (L' := [(2, .int (nI (i + 1))), (0, .ref (dk)), (1, .int (nI (x)))]) dX7_find_12 (by decide) rfl (by decide) rfl ?_
        refine aw_goto (tgt := 2) dX7_find_15 (by decide) ?_
        refine aw_sub (L' := [(0, .ref (dk)), (1, .int (nI (x))), (2, .int (nI (i + 1)))]) [1, 2, 0] rfl ?_
        exact ih (i + 1) (by omega) (by omega) (fun k hk => by rcases Nat.lt_or_ge k i with q | q; exact ha k q; rw [show k = i by omega]; exact c2)
  refine aw_sub (L' := [(0, .ref (dk)), (1, .int (nI (x))), (2, .int (nI (0)))]) [1, 2, 0] rfl ?_
  exact K (l.length + 1) 0 (by omega) (by omega) (fun k hk => absurd hk (Nat.not_lt_zero _))
