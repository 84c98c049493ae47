/-! ===== toTop, riffle, the new deck: class and model reckon the same ===== -/
def stpM (n a : Nat) : Nat → Nat
  | 0 => 0
  | k + 1 => if a.testBit k then (stpM n a k ||| (2 ^ (if k < n / 2 then 2 * k else 2 * k - n + 1) ||| 2 ^ (if k < n / 2 then 2 * k + 1 else 2 * k - n + 1 - 1))) else stpM n a k
def ttM (n : Nat) : Nat → Nat → Nat → Nat → Option Int32
  | 0, _, _, _ => none
  | f + 1, t, a, s => if a = 0 then some (-1) else if a % 2 = 1 then some (nI t) else ttM n f (t + 1) (stpM n a n &&& (65535 ^^^ s)) (s ||| stpM n a n)
theorem ttM_all : ∀ n, n < 17 → 2 ≤ n → n % 2 = 0 → ∀ j, j < n → ttM n 18 0 (2 ^ j) (2 ^ j) = some (ttF (n / 2) (n + 1) 0 (2 ^ j)) := by decide +kernel
theorem stpM_lt {n a : Nat} (hn : n ≤ 16) (he : n % 2 = 0) : ∀ k, k ≤ n → stpM n a k < 2 ^ 16 := by
  intro k
  induction k with
  | zero => intro _; exact (by decide : (0 : Nat) < 2 ^ 16)
  | succ k ih =>
    intro hk
    unfold stpM
    split
    · refine Nat.or_lt_two_pow (ih (by omega)) (Nat.or_lt_two_pow (Nat.pow_lt_pow_right (by decide) ?_) (Nat.pow_lt_pow_right (by decide) ?_))
      · split <;> omega
      · split <;> omega
    · exact ih (by omega)
theorem n_andn {a b : Nat} (ha : a < 2 ^ 16) : nI a &&& (nI b ^^^ -1) = nI (a &&& (65535 ^^^ b)) := by
  have e : (-1 : Int32) = nI 4294967295 := by decide
  rw [e, nI_xor, n_and]
  congr 1
  apply Nat.eq_of_testBit_eq
  intro i
  rw [Nat.testBit_and, Nat.testBit_and, Nat.testBit_xor, Nat.testBit_xor]
  by_cases q : i < 16
  · have h1 : (4294967295 : Nat).testBit i = true := by
      have := Nat.testBit_two_pow_sub_one 32 i
      rw [show 2 ^ 32 - 1 = 4294967295 by decide] at this
      rw [this]; exact decide_eq_true (by omega)
    have h2 : (65535 : Nat).testBit i = true := by
      have := Nat.testBit_two_pow_sub_one 16 i
      rw [show 2 ^ 16 - 1 = 65535 by decide] at this
      rw [this]; exact decide_eq_true q
    rw [h1, h2, Bool.xor_comm]
  · have h4 : a.testBit i = false := Nat.testBit_lt_two_pow (Nat.lt_of_lt_of_le ha (Nat.pow_le_pow_right (by decide) (by omega)))
    rw [h4]; rfl
/-- where the second rise begins -/
def bgn (l : List Nat) (n : Nat) : Nat := ff (fun i => decide (ixOf l (i + 1) < ixOf l i)) (n - 1) + 1
def rifM (l : List Nat) (n : Nat) : Int32 := if 2 < runs l n then -1 else if runs l n = 1 then 0 else nI (plf l (bgn l n) n)
theorem ct_pos {p : Nat → Bool} {n : Nat} (h : 0 < ct p n) : ∃ k, k < n ∧ p k = true := by
  induction n with
  | zero => exact absurd h (Nat.not_lt_zero _)
  | succ n ih =>
    by_cases q : p n = true
    · exact ⟨n, by omega, q⟩
    · rw [ct_f (by simpa using q)] at h
      obtain ⟨k, h1, h2⟩ := ih h
      exact ⟨k, by omega, h2⟩
theorem ct_ge {p : Nat → Bool} {n k : Nat} (hk : k < n) (h : p k = true) : 0 < ct p n := by
  induction n with
  | zero => omega
  | succ n ih =>
    rcases Nat.lt_or_ge k n with q | q
    · have := ih q
      simp only [ct]; omega
    · rw [ct_t (by rw [show n = k by omega]; exact h)]; omega
theorem ct_two {p : Nat → Bool} {n i j : Nat} (hij : i < j) (hj : j < n) (h1 : p i = true) (h2 : p j = true) : 2 ≤ ct p n := by
  induction n with
  | zero => omega
  | succ n ih =>
    rcases Nat.lt_or_ge j n with q | q
    · have := ih q
      simp only [ct]; omega
    · rw [ct_t (by rw [show n = j by omega]; exact h2)]
      have := ct_ge (n := n) (k := i) (by omega) h1
      omega
theorem plf_bit {l : List Nat} {a : Nat} : ∀ k i, (plf l a k).testBit i = (decide (i < k) && decide (a ≤ cd l i)) := by
  intro k
  induction k with
  | zero => intro i; rw [show plf l a 0 = 0 from rfl, Nat.zero_testBit]; simp
  | succ k ih =>
    intro i
    unfold plf
    rw [Nat.testBit_or, ih i]
    by_cases q : i = k
    · subst q
      by_cases w : a ≤ cd l i
      · rw [if_pos w, Nat.testBit_two_pow]; simp [w]
      · rw [if_neg w, Nat.zero_testBit]; simp [w]
    · have e : (if a ≤ cd l k then 2 ^ k else 0).testBit i = false := by
        split
        · rw [Nat.testBit_two_pow]; exact decide_eq_false (fun w => q w.symm)
        · exact Nat.zero_testBit i
      rw [e, Bool.or_false]
      by_cases w : i < k
      · rw [decide_eq_true w, decide_eq_true (show i < k + 1 by omega)]
      · rw [decide_eq_false w, decide_eq_false (show ¬ i < k + 1 by omega)]
theorem rif_at {m n : Nat} : ∀ k, k ≤ n → ∀ i, i < k → (rif m n k).getD i 0 / 2 = if m.testBit i then n - ones m n + ones m i else i - ones m i := by
  intro k
  induction k with
  | zero => intro _ i hi; exact absurd hi (Nat.not_lt_zero _)
  | succ k ih =>
    intro hk i hi
    have hl := (rif_ok (m := m) (n := n) k (by omega)).1
    rw [show rif m n (k + 1) = rif m n k ++ [2 * (if m.testBit k then n - ones m n + ones m k else k - ones m k)] from rfl, gD_app, hl]
    by_cases q : i < k
    · rw [if_pos q]; exact ih (by omega) i q
    · rw [if_neg q, show i = k by omega, Nat.sub_self]
      show (2 * _) / 2 = _
      omega
