/-! ===== how many bits of a number below 65536 are 1 ===== -/
theorem land_add {a b c d : Nat} (k : Nat) (hb : b < 2 ^ k) (hd : d < 2 ^ k) : (2 ^ k * a + b) &&& (2 ^ k * c + d) = 2 ^ k * (a &&& c) + (b &&& d) := by
  apply Nat.eq_of_testBit_eq
  intro j
  rw [Nat.testBit_and, Nat.testBit_two_pow_mul_add a hb, Nat.testBit_two_pow_mul_add c hd, Nat.testBit_two_pow_mul_add (a &&& c) (Nat.and_lt_two_pow _ hd)]
  split <;> rw [Nat.testBit_and]
def s1 (x : Nat) : Nat := x - (x / 2 &&& 85)
def s2 (x : Nat) : Nat := (s1 x &&& 51) + (s1 x / 4 &&& 51)
def s3 (x : Nat) : Nat := (s2 x + s2 x / 16) &&& 15
theorem s_facts : ∀ x, x < 256 → (x / 2 &&& 85 ≤ x ∧ s1 x < 256 ∧ s2 x ≤ 68 ∧ s2 x % 16 ≤ 4 ∧ s3 x ≤ 8 ∧ s3 x = ones x 8) := by decide +kernel
theorem s_l1 : ∀ e, e < 2 → ∀ y, y < 128 → (128 * e + y) &&& 85 = y &&& 85 := by decide +kernel
theorem s_l2 : ∀ e, e < 4 → ∀ y, y < 64 → (64 * e + y) &&& 51 = y &&& 51 := by decide +kernel
theorem s_l3 : ∀ e, e < 5 → ∀ y, y < 69 → (y + 16 * e + y / 16) &&& 15 = (y + y / 16) &&& 15 := by decide +kernel
theorem s_l4 : ∀ e, e < 9 → ∀ y, y < 9 → (256 * e + (y + e)) &&& 63 = y + e := by decide +kernel
theorem ones_add {a b : Nat} (hb : b < 256) : ones (256 * a + b) 16 = ones b 8 + ones a 8 := by
  have e : ∀ j, (256 * a + b).testBit j = if j < 8 then b.testBit j else a.testBit (j - 8) := fun j => Nat.testBit_two_pow_mul_add (i := 8) a hb j
  unfold ones
  simp only [ct, e]
  simp
  omega
theorem bc1 {m : Nat} (hm : m < 65536) : m - (m / 2 &&& 1431655765) = 256 * s1 (m / 256) + s1 (m % 256) := by
  obtain ⟨f1, f2, -⟩ := s_facts (m / 256) (by omega)
  obtain ⟨g1, g2, -⟩ := s_facts (m % 256) (by omega)
  have h1 : m / 2 = 2 ^ 8 * (m / 256 / 2) + (128 * (m / 256 % 2) + m % 256 / 2) := by omega
  have h2 : (1431655765 : Nat) = 2 ^ 8 * 5592405 + 85 := by decide
  have h3 : m / 256 / 2 &&& 5592405 = m / 256 / 2 &&& 85 := by
    have e3 := land_add (a := 0) (b := m / 256 / 2) (c := 21845) (d := 85) 8 (by omega) (by decide)
    rw [Nat.zero_and, Nat.mul_zero, Nat.zero_add, Nat.zero_add, show 2 ^ 8 * 21845 + 85 = 5592405 by decide] at e3
    exact e3
  have h4 : m / 2 &&& 1431655765 = 256 * (m / 256 / 2 &&& 85) + (m % 256 / 2 &&& 85) := by
    rw [h1, h2, land_add 8 (by omega) (by decide), h3, s_l1 _ (Nat.mod_lt _ (by decide)) _ (by omega)]
  rw [h4]
  unfold s1
  omega
theorem bc2 {m : Nat} (hm : m < 65536) : ((256 * s1 (m / 256) + s1 (m % 256)) &&& 858993459) + ((256 * s1 (m / 256) + s1 (m % 256)) / 4 &&& 858993459) = 256 * s2 (m / 256) + s2 (m % 256) := by
  obtain ⟨f1, f2, -⟩ := s_facts (m / 256) (by omega)
  obtain ⟨g1, g2, -⟩ := s_facts (m % 256) (by omega)
  unfold s2
  generalize s1 (m / 256) = a at *
  generalize s1 (m % 256) = b at *
  have h2 : (858993459 : Nat) = 2 ^ 8 * 3355443 + 51 := by decide
  have h3 : ∀ x, x < 256 → x &&& 3355443 = x &&& 51 := fun x hx => by
    have e3 := land_add (a := 0) (b := x) (c := 13107) (d := 51) 8 (by omega) (by decide)
    rw [Nat.zero_and, Nat.mul_zero, Nat.zero_add, Nat.zero_add, show 2 ^ 8 * 13107 + 51 = 3355443 by decide] at e3
    exact e3
  have h4 : (256 * a + b) &&& 858993459 = 256 * (a &&& 51) + (b &&& 51) := by
    have e := land_add (a := a) (b := b) (c := 3355443) (d := 51) 8 (by omega) (by decide)
    rw [h3 a f2] at e
    rw [h2]; exact e
  have h5 : (256 * a + b) / 4 = 2 ^ 8 * (a / 4) + (64 * (a % 4) + b / 4) := by omega
  have h6 : (256 * a + b) / 4 &&& 858993459 = 256 * (a / 4 &&& 51) + (b / 4 &&& 51) := by
    rw [h5, h2, land_add 8 (by omega) (by decide), h3 _ (by omega), s_l2 _ (Nat.mod_lt _ (by decide)) _ (by omega)]
  rw [h4, h6]
  omega
theorem bc3 {m : Nat} (hm : m < 65536) : ((256 * s2 (m / 256) + s2 (m % 256)) + (256 * s2 (m / 256) + s2 (m % 256)) / 16) &&& 252645135 = 256 * s3 (m / 256) + s3 (m % 256) := by
  obtain ⟨-, -, f3, f4, -⟩ := s_facts (m / 256) (by omega)
  obtain ⟨-, -, g3, g4, -⟩ := s_facts (m % 256) (by omega)
  unfold s3
  generalize s2 (m / 256) = a at *
  generalize s2 (m % 256) = b at *
  have h2 : (252645135 : Nat) = 2 ^ 8 * 986895 + 15 := by decide
  have h3 : ∀ x, x < 256 → x &&& 986895 = x &&& 15 := fun x hx => by
    have e3 := land_add (a := 0) (b := x) (c := 3855) (d := 15) 8 (by omega) (by decide)
    rw [Nat.zero_and, Nat.mul_zero, Nat.zero_add, Nat.zero_add, show 2 ^ 8 * 3855 + 15 = 986895 by decide] at e3
    exact e3
  have h5 : (256 * a + b) + (256 * a + b) / 16 = 2 ^ 8 * (a + a / 16) + (b + 16 * (a % 16) + b / 16) := by omega
  rw [h5, h2, land_add 8 (by omega) (by decide), h3 _ (by omega), s_l3 _ (by omega) _ (by omega)]
theorem bc4 {m : Nat} (hm : m < 65536) : ((256 * s3 (m / 256) + s3 (m % 256)) + (256 * s3 (m / 256) + s3 (m % 256)) / 256) + ((256 * s3 (m / 256) + s3 (m % 256)) + (256 * s3 (m / 256) + s3 (m % 256)) / 256) / 65536 &&& 63 = ones m 16 := by
  obtain ⟨-, -, -, -, f5, f6⟩ := s_facts (m / 256) (by omega)
  obtain ⟨-, -, -, -, g5, g6⟩ := s_facts (m % 256) (by omega)
  have e := ones_add (a := m / 256) (b := m % 256) (Nat.mod_lt _ (by decide))
  rw [show 256 * (m / 256) + m % 256 = m by omega] at e
  rw [e, ← f6, ← g6]
  generalize s3 (m / 256) = a at *
  generalize s3 (m % 256) = b at *
  have h := s_l4 a (by omega) b (by omega)
  have q1 : (256 * a + b) / 256 = a := by omega
  rw [q1]
  have q2 : (256 * a + b + a) / 65536 = 0 := by omega
  rw [q2, Nat.add_zero, show 256 * a + b + a = 256 * a + (b + a) by omega]
  exact h
theorem n_and (a b : Nat) : nI a &&& nI b = nI (a &&& b) := by
  apply Int32.toBitVec_inj.1
  show BitVec.ofNat 32 a &&& BitVec.ofNat 32 b = BitVec.ofNat 32 (a &&& b)
  apply BitVec.eq_of_getLsbD_eq
  intro i hi
  simp [hi]
theorem s_u9 : ∀ n, n < 32 → (((nI n).toUInt32 &&& Int32.toUInt32 31).toBitVec % 32).toNat = n := by decide +kernel
theorem n_ushr {m : Nat} (hm : m < 2 ^ 31) (k : Nat) (hk : k < 32) : ((nI m).toUInt32 >>> ((nI k).toUInt32 &&& Int32.toUInt32 31)).toInt32 = nI (m / 2 ^ k) := pk_ushrN (by omega) _ k (s_u9 k hk)
theorem s_l9 : ∀ n, n < 32 → ((nI n &&& 31).toBitVec.smod 32).toNat = n := by decide +kernel
theorem n_shr {m : Nat} (hm : m < 2 ^ 31) (k : Nat) (hk : k < 32) : nI m >>> (nI k &&& 31) = nI (m / 2 ^ k) := pk_shrN hm _ k (s_l9 k hk)
theorem n_shl {m : Nat} (k : Nat) (hk : k < 32) (h : m * 2 ^ k < 2 ^ 32) : nI m <<< (nI k &&& 31) = nI (m * 2 ^ k) := pk_shlN _ k (s_l9 k hk) h
theorem ones_16 {m n : Nat} (hn : n ≤ 16) (hm : m < 2 ^ n) : ones m 16 = ones m n := by
  have key : ∀ k, n ≤ k → ones m k = ones m n := by
    intro k hk
    induction k with
    | zero => rw [show n = 0 by omega]
    | succ k ih =>
      rcases Nat.lt_or_ge k n with q | q
      · rw [show n = k + 1 by omega]
      · have e : m.testBit k = false := Nat.testBit_lt_two_pow (Nat.lt_of_lt_of_le hm (Nat.pow_le_pow_right (by decide) q))
        rw [← ih q]
        exact ct_f e
  exact key 16 hn
/-- a counter that goes down to -1: one more than it -/
def dn : Nat → Int32
  | 0 => -1
  | k + 1 => nI k
theorem dn_0 : dn 0 < 0 := by decide
theorem dn_pred (k : Nat) : nI k + Int32.ofInt (-1) = dn k := by
  cases k with
  | zero => decide
  | succ k => rw [ic_m1]; exact pk_m1 k
theorem tb_div (m i : Nat) : m.testBit i = decide (m / 2 ^ i % 2 = 1) := by
  rw [Nat.testBit_eq_decide_div_mod_eq]
