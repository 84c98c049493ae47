/-! ===== cycles ===== -/
/-- where one comes from s in t steps -/
def itr (l : List Nat) : Nat → Nat → Nat
  | 0, s => s
  | t + 1, s => cd l (itr l t s)
theorem itr_lt {n : Nat} {l : List Nat} (hc : cOk n l) {s : Nat} (hs : s < n) (t : Nat) : itr l t s < n := by
  induction t with
  | zero => exact hs
  | succ t ih => exact hc.lt ih
def lsr (l : List Nat) (s : Nat) : Nat → Nat
  | 0 => s
  | t + 1 => min (lsr l s t) (itr l (t + 1) s)
theorem lsr_le {l : List Nat} {s : Nat} (t : Nat) : lsr l s t ≤ s := by
  induction t with
  | zero => exact Nat.le_refl _
  | succ t ih => exact Nat.le_trans (Nat.min_le_left _ _) ih
/-- the first below m with p, or m -/
def ff (p : Nat → Bool) : Nat → Nat
  | 0 => 0
  | m + 1 => if ff p m < m then ff p m else if p m then m else m + 1
theorem ff_le (p : Nat → Bool) (m : Nat) : ff p m ≤ m := by
  induction m with
  | zero => exact Nat.le_refl _
  | succ m ih => simp only [ff]; split; omega; split <;> omega
theorem ff_no {p : Nat → Bool} {m k : Nat} (h : k < ff p m) : p k = false := by
  induction m with
  | zero => exact absurd h (Nat.not_lt_zero _)
  | succ m ih =>
    have q := ff_le p m
    simp only [ff] at h
    split at h
    · exact ih h
    · split at h
      · exact ih (by omega)
      · rcases Nat.lt_or_ge k m with r | r
        · exact ih (by omega)
        · rw [show k = m by omega]
          cases hp : p m with
          | false => rfl
          | true => rename_i g; exact absurd hp g
theorem ff_yes {p : Nat → Bool} {m : Nat} (h : ff p m < m) : p (ff p m) = true := by
  induction m with
  | zero => exact absurd h (Nat.not_lt_zero _)
  | succ m ih =>
    simp only [ff] at h ⊢
    split
    · rename_i g; exact ih g
    · split
      · assumption
      · rename_i g1 g2; rw [if_neg g1, if_neg g2] at h; omega
theorem ff_eq {p : Nat → Bool} {m k : Nat} (hk : k ≤ m) (h1 : ∀ j, j < k → p j = false) (h2 : k < m → p k = true) : ff p m = k := by
  rcases Nat.lt_or_ge (ff p m) k with q | q
  · have := ff_yes (p := p) (m := m) (by omega)
    rw [h1 _ q] at this; cases this
  · rcases Nat.lt_or_ge k (ff p m) with r | r
    · have e := ff_no r
      have := ff_le p m
      rw [h2 (by omega)] at e; cases e
    · omega
/-- how long the cycle through s is -/
def cyl (l : List Nat) (n s : Nat) : Nat := ff (fun t => decide (itr l (t + 1) s = s)) (n - 1) + 1
theorem cyl_pos {l : List Nat} {n s : Nat} : 0 < cyl l n s := Nat.succ_pos _
theorem cyl_le {l : List Nat} {n s : Nat} (h : 0 < n) : cyl l n s ≤ n := by
  have := ff_le (fun t => decide (itr l (t + 1) s = s)) (n - 1)
  unfold cyl; omega
def cyc (l : List Nat) (n : Nat) : Nat := ct (fun p => decide (lsr l p n = p)) n
def lgs (l : List Nat) (n : Nat) : Nat → Nat
  | 0 => 0
  | k + 1 => max (lgs l n k) (cyl l n k)
def ppd (l : List Nat) (n : Nat) : Nat → Nat
  | 0 => 1
  | k + 1 => Nat.lcm (ppd l n k) (cyl l n k)
def tvx (l : List Nat) (s : Nat) : Nat → Bool
  | 0 => false
  | t + 1 => (tvx l s t) != (up l (itr l t s))
def tov (l : List Nat) (n s : Nat) : Bool := tvx l s (cyl l n s)
def fpd (l : List Nat) (n : Nat) : Nat → Nat
  | 0 => 1
  | k + 1 => Nat.lcm (fpd l n k) ((if tov l n k then 2 else 1) * cyl l n k)
theorem lgs_le {l : List Nat} {n : Nat} (h : 0 < n) (k : Nat) : lgs l n k ≤ n := by
  induction k with
  | zero => exact Nat.zero_le _
  | succ k ih => have := cyl_le (l := l) (s := k) h; simp only [lgs]; omega
theorem dvd_720720 : ∀ k, k < 17 → 0 < k → k ∣ 720720 := by decide
theorem ppd_dvd {l : List Nat} {n : Nat} (h : 0 < n) (hn : n ≤ 16) (k : Nat) : ppd l n k ∣ 720720 := by
  induction k with
  | zero => exact Nat.one_dvd _
  | succ k ih => exact Nat.lcm_dvd ih (dvd_720720 _ (by have := cyl_le (l := l) (s := k) h; omega) cyl_pos)
theorem fpd_dvd {l : List Nat} {n : Nat} (h : 0 < n) (hn : n ≤ 16) (k : Nat) : fpd l n k ∣ 1441440 := by
  induction k with
  | zero => exact Nat.one_dvd _
  | succ k ih =>
    refine Nat.lcm_dvd ih ?_
    have e := dvd_720720 _ (show cyl l n k < 17 by have := cyl_le (l := l) (s := k) h; omega) cyl_pos
    split
    · exact Nat.mul_dvd_mul_left 2 e
    · rw [Nat.one_mul]; exact Nat.dvd_trans e ⟨2, rfl⟩
theorem dvd_pos {a b : Nat} (h : a ∣ b) (hb : 0 < b) : 0 < a := Nat.pos_of_dvd_of_pos h hb
/-- the least multiple of a that b divides -/
theorem lcm_least {a b t : Nat} (ha : 0 < a) (hb : 0 < b) (ht : 1 ≤ t) (hd : t < b → (a * t) % b = 0) (htb : t ≤ b) (hm : ∀ s, 1 ≤ s → s < t → ¬ (a * s) % b = 0) : a * t = Nat.lcm a b := by
  obtain ⟨t0, h0⟩ := Nat.dvd_lcm_left a b
  have hp : 0 < Nat.lcm a b := Nat.lcm_pos ha hb
  have hp0 : 0 < t0 := by rcases Nat.eq_zero_or_pos t0 with q | q; rw [q, Nat.mul_zero] at h0; omega; exact q
  have hbt : b ∣ a * t := by
    rcases Nat.lt_or_ge t b with q | q
    · exact Nat.dvd_of_mod_eq_zero (hd q)
    · rw [show t = b by omega]; exact Nat.dvd_mul_left b a
  have h1 : Nat.lcm a b ∣ a * t := Nat.lcm_dvd (Nat.dvd_mul_right a t) hbt
  have h2 : Nat.lcm a b ≤ a * t := Nat.le_of_dvd (Nat.mul_pos ha ht) h1
  rw [h0] at h2
  have h3 : t0 ≤ t := Nat.le_of_mul_le_mul_left h2 ha
  rcases Nat.lt_or_ge t0 t with q | q
  · refine absurd ?_ (hm t0 hp0 q)
    rw [← h0]
    exact Nat.mod_eq_zero_of_dvd (Nat.dvd_lcm_right a b)
  · rw [h0, show t0 = t by omega]
