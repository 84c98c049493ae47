/-! ===== a deck is as new just if nothing is inverted ===== -/
theorem sm_zero {f : Nat → Nat} {n : Nat} (h : sm f n = 0) : ∀ k, k < n → f k = 0 := by
  induction n with
  | zero => intro k hk; exact absurd hk (Nat.not_lt_zero _)
  | succ n ih =>
    intro k hk
    simp only [sm] at h
    rcases Nat.lt_or_ge k n with q | q
    · exact ih (by omega) k q
    · rw [show k = n by omega]; omega
theorem sm_z {f : Nat → Nat} {n : Nat} (h : ∀ k, k < n → f k = 0) : sm f n = 0 := by
  induction n with
  | zero => rfl
  | succ n ih => simp only [sm]; rw [ih (fun k hk => h k (by omega)), h n (by omega)]
theorem ct_full {p : Nat → Bool} {n : Nat} : ct p n = n ↔ ∀ k, k < n → p k = true := by
  induction n with
  | zero => exact ⟨fun _ k hk => absurd hk (Nat.not_lt_zero _), fun _ => rfl⟩
  | succ n ih =>
    have hle := ct_le p n
    refine ⟨fun h k hk => ?_, fun h => ?_⟩
    · cases hb : p n with
      | false => rw [ct_f hb] at h; omega
      | true =>
        rw [ct_t hb] at h
        rcases Nat.lt_or_ge k n with q | q
        · exact ih.mp (by omega) k q
        · rw [show k = n by omega]; exact hb
    · rw [ct_t (h n (by omega)), ih.mpr (fun k hk => h k (by omega))]
theorem new_iff {n : Nat} {l : List Nat} (hc : cOk n l) (ha : cAll n l) : fixs l n = n ↔ invs l n = 0 := by
  unfold fixs invs
  rw [ct_full]
  refine ⟨fun h => ?_, fun h => ?_⟩
  · refine sm_z (fun k hk => ct_0 (fun j hj => ?_))
    have h1 := of_decide_eq_true (h k hk)
    have h2 := of_decide_eq_true (h j hj)
    rw [h1, h2]
    by_cases q : k < j
    · rw [decide_eq_false (show ¬ j < k by omega), Bool.and_false]
    · rw [decide_eq_false q]; rfl
  · have hz := sm_zero h
    have hinc : ∀ j, j < n → ∀ k, k < j → cd l k < cd l j := fun j hj k hk => by
      have h1 := hz k (by omega)
      have h2 : ¬ (decide (k < j) && decide (cd l j < cd l k)) = true := fun w => by
        have := ct_ge (p := fun j => decide (k < j) && decide (cd l j < cd l k)) (n := n) (k := j) hj w
        omega
      have h3 : ¬ cd l j < cd l k := fun w => h2 (by rw [decide_eq_true hk, decide_eq_true w]; rfl)
      have h4 : cd l k ≠ cd l j := fun w => by have := cd_inj hc ha (show k < n by omega) hj w; omega
      omega
    have hlo : ∀ k, k < n → k ≤ cd l k := fun k => by
      induction k with
      | zero => intro _; exact Nat.zero_le _
      | succ k ih =>
        intro hk
        have h1 := ih (by omega)
        have h2 := hinc (k + 1) hk k (by omega)
        omega
    have hhi : ∀ i, i < n → cd l (n - 1 - i) + i < n := fun i => by
      induction i with
      | zero => intro hi; exact hc.lt (by omega)
      | succ i ih =>
        intro hi
        have h1 := ih (by omega)
        have h2 := hinc (n - 1 - i) (by omega) (n - 1 - (i + 1)) (by omega)
        omega
    intro k hk
    have h1 := hlo k hk
    have h2 := hhi (n - 1 - k) (by omega)
    rw [show n - 1 - (n - 1 - k) = k by omega] at h2
    exact decide_eq_true (by omega)
theorem invs_le {l : List Nat} {n : Nat} (hn : n ≤ 16) : invs l n ≤ 256 := by
  have h1 := sm_le (f := fun k => ct (fun j => decide (k < j) && decide (cd l j < cd l k)) n) (c := n) (n := n) (fun k _ => ct_le _ n)
  have h2 : n * n ≤ 16 * 16 := Nat.mul_le_mul hn hn
  unfold invs
  omega
