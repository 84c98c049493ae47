set_option maxHeartbeats 4000000 in
set_option maxRecDepth 20000 in
/-- common, one step -/
theorem c_X9_common0 (G : aG) {h : aH} {nx a b k : Nat} (ha : a < 2 ^ 31) (hb : b < 2 ^ 31) (hk : b ≤ k) (hi : ∀ a2 b2 : Nat, a2 < 2 ^ 31 → b2 < b → aMet G mX9_common b2 0 0 [.int (nI a2), .int (nI b2)] h nx (pI (nI (Nat.gcd a2 b2)) h nx)) : aMet G mX9_common b 0 0 [.int (nI (a)), .int (nI (b))] h nx (pI (nI (Nat.gcd a b)) h nx) := by
  refine aMet_of rfl (Nat.le_of_ble_eq_true rfl) ?_
  show aw G mX9_common [] (aRoom b 0 0) (aEnd G (pI (nI (Nat.gcd a b)) h nx) 0 0) 0 0 h nx 0 [(0, .int (nI (a))), (1, .int (nI (b)))] []
  refine aw_iload_n dX9_common_0 rfl ?_
  refine aw_if_neN (tgt := 8) (by omega) dX9_common_1 (by decide) (fun c1 => ?_) (fun c1 => ?_)
  · skip
    have hm := Nat.mod_lt a (show 0 < b by omega)
    refine aw_iload_n dX9_common_8 rfl ?_
    refine aw_iload_n dX9_common_9 rfl ?_
    refine aw_iload_n dX9_common_10 rfl ?_
    refine aw_iremN (by omega) (by omega) (by omega) dX9_common_11 ?_
    refine aw_callSR (As := [.int (nI (b)), .int (nI (a % b))]) (rest := []) (hi b (a % b) hb hm) kX9_common w_1042 rfl rfl (Nat.le_of_ble_eq_true rfl) dX9_common_12 ⟨(show a % b + 1 ≤ b by omega), (show 8 + (2 + 11) + 40 * (a % b) ≤ 40 * b by omega)⟩ ⟨Nat.le_of_ble_eq_true rfl, Nat.le_of_ble_eq_true rfl⟩ ?_
    exact aw_ireturn dX9_common_15 rfl ⟨r_n (by rw [Nat.gcd_comm a b, Nat.gcd_rec b a]; rw [Nat.gcd_comm]), rfl, rfl⟩ (Nat.le_of_ble_eq_true rfl) (Nat.le_of_ble_eq_true rfl)
  · skip
    refine aw_iload_n dX9_common_4 rfl ?_
    refine aw_goto (tgt := 15) dX9_common_5 (by decide) ?_
    exact aw_ireturn dX9_common_15 rfl ⟨r_n (by rw [c1]; exact (Nat.gcd_zero_right a).symm), rfl, rfl⟩ (Nat.le_of_ble_eq_true rfl) (Nat.le_of_ble_eq_true rfl)
theorem c_X9_common (G : aG) {h : aH} {nx : Nat} : ∀ (k a b : Nat), b ≤ k → a < 2 ^ 31 → b < 2 ^ 31 → aMet G mX9_common b 0 0 [.int (nI a), .int (nI b)] h nx (pI (nI (Nat.gcd a b)) h nx) := by
  intro k
  induction k with
  | zero => intro a b hk ha hb; exact c_X9_common0 G ha hb hk (fun a2 b2 _ h2 => absurd h2 (by omega))
  | succ k ih => intro a b hk ha hb; exact c_X9_common0 G ha hb hk (fun a2 b2 h1 h2 => ih a2 b2 (by omega) h1 (by omega))
set_option maxHeartbeats 4000000 in
set_option maxRecDepth 20000 in
/-- needed(runs) -/
theorem c_X9_needed (G : aG) {h : aH} {nx t : Nat} (ht : t ≤ 16) : aMet G mX9_needed 0 0 0 [.int (nI (t))] h nx (pI (nI (ndr t)) h nx) := by
  refine aMet_of rfl (Nat.le_of_ble_eq_true rfl) ?_
  show aw G mX9_needed [] (aRoom 0 0 0) (aEnd G (pI (nI (ndr t)) h nx) 0 0) 0 0 h nx 0 [(0, .int (nI (t)))] []
  refine aw_ic dX9_needed_0 ic_0 ?_
  refine aw_istore_n (L' := [(1, .int (nI (0))), (0, .int (nI (t)))]) dX9_needed_1 (by decide) rfl ?_
  refine aw_ic dX9_needed_2 ic_1 ?_
  refine aw_iload_n dX9_needed_3 rfl ?_
  refine aw_ishl dX9_needed_4 ?_
  refine aw_top (show ((nI (1)) <<< ((nI (0)) &&& 31)) = (nI (1)) from by decide) ?_
  refine aw_iload_n dX9_needed_5 rfl ?_
  refine aw_icmp_geN (tgt := 15) (by omega) (by omega) dX9_needed_6 (by decide) (fun e0 => ?_) (fun e0 => ?_)
  · skip
    refine aw_iload_n dX9_needed_15 rfl ?_
    exact aw_ireturn dX9_needed_16 rfl ⟨r_n (by unfold ndr; split <;> (try split) <;> (try split) <;> (try split) <;> omega), rfl, rfl⟩ (Nat.le_of_ble_eq_true rfl) (Nat.le_of_ble_eq_true rfl)
  · skip
    refine aw_iincN (k := 1) (L' := [(1, .int (nI (0 + 1))), (0, .int (nI (t)))]) dX9_needed_9 (by decide) rfl (by decide) rfl ?_
    refine aw_goto (tgt := 2) dX9_needed_12 (by decide) ?_
    refine aw_to ?_ (show ([(1, .int (nI (0 + 1))), (0, .int (nI (t)))] : aL) = [(1, .int (nI 1)), (0, .int (nI t))] from rfl) rfl rfl
    refine aw_ic dX9_needed_2 ic_1 ?_
    refine aw_iload_n dX9_needed_3 rfl ?_
    refine aw_ishl dX9_needed_4 ?_
    refine aw_top (show ((nI (1)) <<< ((nI (1)) &&& 31)) = (nI (2)) from by decide) ?_
    refine aw_iload_n dX9_needed_5 rfl ?_
    refine aw_icmp_geN (tgt := 15) (by omega) (by omega) dX9_needed_6 (by decide) (fun e1 => ?_) (fun e1 => ?_)
    · skip
      refine aw_iload_n dX9_needed_15 rfl ?_
      exact aw_ireturn dX9_needed_16 rfl ⟨r_n (by unfold ndr; split <;> (try split) <;> (try split) <;> (try split) <;> omega), rfl, rfl⟩ (Nat.le_of_ble_eq_true rfl) (Nat.le_of_ble_eq_true rfl)
    · skip
      refine aw_iincN (k := 1) (L' := [(1, .int (nI (1 + 1))), (0, .int (nI (t)))]) dX9_needed_9 (by decide) rfl (by decide) rfl ?_
      refine aw_goto (tgt := 2) dX9_needed_12 (by decide) ?_
      refine aw_to ?_ (show ([(1, .int (nI (1 + 1))), (0, .int (nI (t)))] : aL) = [(1, .int (nI 2)), (0, .int (nI t))] from rfl) rfl rfl
      refine aw_ic dX9_needed_2 ic_1 ?_
      refine aw_iload_n dX9_needed_3 rfl ?_
      refine aw_ishl dX9_needed_4 ?_
      refine aw_top (show ((nI (1)) <<< ((nI (2)) &&& 31)) = (nI (4)) from by decide) ?_
      refine aw_iload_n dX9_needed_5 rfl ?_
      refine aw_icmp_geN (tgt := 15) (by omega) (by omega) dX9_needed_6 (by decide) (fun e2 => ?_) (fun e2 => ?_)
      · skip
        refine aw_iload_n dX9_needed_15 rfl ?_
        exact aw_ireturn dX9_needed_16 rfl ⟨r_n (by unfold ndr; split <;> (try split) <;> (try split) <;> (try split) <;> omega), rfl, rfl⟩ (Nat.le_of_ble_eq_true rfl) (Nat.le_of_ble_eq_true rfl)
      · skip
        refine aw_iincN (k := 1) (L' := [(1, .int (nI (2 + 1))), (0, .int (nI (t)))]) dX9_needed_9 (by decide) rfl (by decide) rfl ?_
        refine aw_goto (tgt := 2) dX9_needed_12 (by decide) ?_
        refine aw_to ?_ (show ([(1, .int (nI (2 + 1))), (0, .int (nI (t)))] : aL) = [(1, .int (nI 3)), (0, .int (nI t))] from rfl) rfl rfl
        refine aw_ic dX9_needed_2 ic_1 ?_
        refine aw_iload_n dX9_needed_3 rfl ?_
        refine aw_ishl dX9_needed_4 ?_
        refine aw_top (show ((nI (1)) <<< ((nI (3)) &&& 31)) = (nI (8)) from by decide) ?_
        refine aw_iload_n dX9_needed_5 rfl ?_
        refine aw_icmp_geN (tgt := 15) (by omega) (by omega) dX9_needed_6 (by decide) (fun e3 => ?_) (fun e3 => ?_)
        · skip
          refine aw_iload_n dX9_needed_15 rfl ?_
          exact aw_ireturn dX9_needed_16 rfl ⟨r_n (by unfold ndr; split <;> (try split) <;> (try split) <;> (try split) <;> omega), rfl, rfl⟩ (Nat.le_of_ble_eq_true rfl) (Nat.le_of_ble_eq_true rfl)
        · skip
          refine aw_iincN (k := 1) (L' := [(1, .int (nI (3 + 1))), (0, .int (nI (t)))]) dX9_needed_9 (by decide) rfl (by decide) rfl ?_
          refine aw_goto (tgt := 2) dX9_needed_12 (by decide) ?_
          refine aw_to ?_ (show ([(1, .int (nI (3 + 1))), (0, .int (nI (t)))] : aL) = [(1, .int (nI 4)), (0, .int (nI t))] from rfl) rfl rfl
          refine aw_ic dX9_needed_2 ic_1 ?_
          refine aw_iload_n dX9_needed_3 rfl ?_
          refine aw_ishl dX9_needed_4 ?_
          refine aw_top (show ((nI (1)) <<< ((nI (4)) &&& 31)) = (nI (16)) from by decide) ?_
          refine aw_iload_n dX9_needed_5 rfl ?_
          refine aw_icmp_geN (tgt := 15) (by omega) (by omega) dX9_needed_6 (by decide) (fun e4 => ?_) (fun e4 => absurd e4 (by omega))
          refine aw_iload_n dX9_needed_15 rfl ?_
          exact aw_ireturn dX9_needed_16 rfl ⟨r_n (by unfold ndr; split <;> (try split) <;> (try split) <;> (try split) <;> omega), rfl, rfl⟩ (Nat.le_of_ble_eq_true rfl) (Nat.le_of_ble_eq_true rfl)
