/-! ===== the longest rise: the class's bits, the model's table ===== -/
theorem low_bit : ∀ a : Nat, 0 < a → ∃ t, a.testBit t = true ∧ (∀ i, i < t → a.testBit i = false) ∧ ∀ i, (a - 1).testBit i = if i < t then true else if i = t then false else a.testBit i := by
  intro a
  induction a using Nat.strongRecOn with
  | ind a ih =>
    intro ha
    by_cases hodd : a % 2 = 1
    · refine ⟨0, by rw [Nat.testBit_zero]; exact decide_eq_true hodd, fun i hi => absurd hi (Nat.not_lt_zero _), fun i => ?_⟩
      cases i with
      | zero => rw [Nat.testBit_zero]; simp; omega
      | succ i => rw [if_neg (by omega), if_neg (by omega), Nat.testBit_succ, Nat.testBit_succ, show (a - 1) / 2 = a / 2 by omega]
    · obtain ⟨t, h1, h2, h3⟩ := ih (a / 2) (by omega) (by omega)
      refine ⟨t + 1, by rw [Nat.testBit_succ]; exact h1, fun i hi => ?_, fun i => ?_⟩
      · cases i with
        | zero => rw [Nat.testBit_zero]; exact decide_eq_false hodd
        | succ i => rw [Nat.testBit_succ]; exact h2 i (by omega)
      · cases i with
        | zero => rw [if_pos (by omega), Nat.testBit_zero]; exact decide_eq_true (by omega)
        | succ i =>
          rw [Nat.testBit_succ, Nat.testBit_succ, show (a - 1) / 2 = a / 2 - 1 by omega, h3 i]
          by_cases q : i < t
          · rw [if_pos q, if_pos (show i + 1 < t + 1 by omega)]
          · by_cases q2 : i = t
            · rw [if_neg q, if_neg (show ¬ i + 1 < t + 1 by omega), if_pos q2, if_pos (show i + 1 = t + 1 by omega)]
            · rw [if_neg q, if_neg (show ¬ i + 1 < t + 1 by omega), if_neg q2, if_neg (show ¬ i + 1 = t + 1 by omega)]
theorem lowb_bit {a : Nat} (h0 : 0 < a) (h : a < 2 ^ 16) : ∃ t, t < 16 ∧ a.testBit t = true ∧ (∀ i, i < t → a.testBit i = false) ∧ ∀ i, (lowb a).testBit i = decide (i = t) := by
  obtain ⟨t, h1, h2, h3⟩ := low_bit a h0
  have ht : t < 16 := by
    rcases Nat.lt_or_ge t 16 with q | q
    · exact q
    · have := Nat.testBit_lt_two_pow (i := t) (x := a) (Nat.lt_of_lt_of_le h (Nat.pow_le_pow_right (by decide) q))
      rw [this] at h1; cases h1
  refine ⟨t, ht, h1, h2, fun i => ?_⟩
  unfold lowb
  have e : (2 ^ 16 - a).testBit i = (decide (i < 16) && !((a - 1).testBit i)) := by
    have := Nat.testBit_two_pow_sub_succ (n := 16) (x := a - 1) (by omega) i
    rw [show a - 1 + 1 = a by omega] at this
    exact this
  rw [Nat.testBit_and, e, h3 i]
  by_cases q : i < t
  · rw [h2 i q, decide_eq_false (show ¬ i = t by omega)]; rfl
  · rw [if_neg q]
    by_cases q2 : i = t
    · subst q2; rw [if_pos rfl, h1, decide_eq_true ht, decide_eq_true rfl]; rfl
    · rw [if_neg q2, decide_eq_false q2]
      cases a.testBit i <;> simp
theorem high_bit {e v i : Nat} : (e / 2 ^ v * 2 ^ v).testBit i = (decide (v ≤ i) && e.testBit i) := by
  rw [Nat.mul_comm, Nat.testBit_two_pow_mul]
  by_cases q : v ≤ i
  · rw [decide_eq_true q, Nat.testBit_div_two_pow, show i - v + v = i by omega]
  · rw [decide_eq_false q]; rfl
/-- the bits behind a step: the next one above falls, v rises -/
theorem stepR_bits {e v : Nat} (he : e < 2 ^ 16) (hv : e.testBit v = false) : (∃ t, v < t ∧ e.testBit t = true ∧ (∀ i, v ≤ i → i < t → e.testBit i = false) ∧ ∀ i, (stepR e v).testBit i = (if i = v then true else if i = t then false else e.testBit i)) ∨ ((∀ i, v ≤ i → e.testBit i = false) ∧ ∀ i, (stepR e v).testBit i = (if i = v then true else e.testBit i)) := by
  rcases Nat.eq_zero_or_pos (e / 2 ^ v * 2 ^ v) with q | q
  · have hz : ∀ i, v ≤ i → e.testBit i = false := fun i hi => by
      have := high_bit (e := e) (v := v) (i := i)
      rw [q, Nat.zero_testBit, decide_eq_true hi] at this
      exact this.symm
    refine Or.inr ⟨hz, fun i => ?_⟩
    unfold stepR
    rw [q, show lowb 0 = 0 from rfl, Nat.xor_zero, Nat.testBit_or, Nat.testBit_two_pow]
    by_cases w : i = v
    · rw [if_pos w, decide_eq_true w.symm, Bool.or_true]
    · rw [if_neg w, decide_eq_false (show ¬ v = i from fun z => w z.symm), Bool.or_false]
  · obtain ⟨t, h0, h1, h2, h3⟩ := lowb_bit q (stepR_a he)
    rw [high_bit] at h1
    have h1 := Bool.and_eq_true_iff.mp h1
    have hvt := of_decide_eq_true h1.1
    have hvt2 : v < t := by
      rcases Nat.lt_or_ge v t with w | w
      · exact w
      · rw [show t = v by omega, hv] at h1; exact absurd h1.2 (by decide)
    refine Or.inl ⟨t, hvt2, h1.2, fun i hi1 hi2 => ?_, fun i => ?_⟩
    · have := h2 i hi2
      rw [high_bit, decide_eq_true hi1] at this
      exact this
    · unfold stepR
      rw [Nat.testBit_or, Nat.testBit_two_pow, Nat.testBit_xor, h3 i]
      by_cases w : i = v
      · rw [if_pos w, decide_eq_true w.symm, Bool.or_true]
      · rw [if_neg w, decide_eq_false (show ¬ v = i from fun z => w z.symm), Bool.or_false]
        by_cases w2 : i = t
        · rw [if_pos w2, decide_eq_true w2, w2, h1.2]; rfl
        · rw [if_neg w2, decide_eq_false w2, Bool.xor_false]
theorem ones_split {m a b : Nat} (h : a ≤ b) (hz : ∀ i, a ≤ i → i < b → m.testBit i = false) : ones m b = ones m a := by
  induction b with
  | zero => rw [show a = 0 by omega]
  | succ b ih =>
    rcases Nat.lt_or_ge b a with q | q
    · rw [show a = b + 1 by omega]
    · have e : ones m (b + 1) = ones m b := ct_f (hz b q (by omega))
      rw [e, ih q (fun i h1 h2 => hz i h1 (by omega))]
/-- one bit more, one less -/
theorem ones_set {m k v : Nat} (hm : m.testBit v = false) (hk : ∀ i, k.testBit i = if i = v then true else m.testBit i) : ∀ b, ones k b = ones m b + (if v < b then 1 else 0) := by
  intro b
  induction b with
  | zero => simp [ones, ct]
  | succ b ih =>
    have e1 : ones k (b + 1) = ones k b + (if k.testBit b then 1 else 0) := rfl
    have e2 : ones m (b + 1) = ones m b + (if m.testBit b then 1 else 0) := rfl
    rw [e1, e2, ih, hk b]
    by_cases q : b = v
    · subst q; rw [if_pos rfl, hm]; simp
    · rw [if_neg q]
      by_cases q2 : v < b
      · rw [if_pos q2, if_pos (show v < b + 1 by omega)]; omega
      · rw [if_neg q2, if_neg (show ¬ v < b + 1 by omega)]; omega
theorem ones_clr {m k t : Nat} (hm : m.testBit t = true) (hk : ∀ i, k.testBit i = if i = t then false else m.testBit i) : ∀ b, ones k b + (if t < b then 1 else 0) = ones m b := by
  intro b
  induction b with
  | zero => simp [ones, ct]
  | succ b ih =>
    have e1 : ones k (b + 1) = ones k b + (if k.testBit b then 1 else 0) := rfl
    have e2 : ones m (b + 1) = ones m b + (if m.testBit b then 1 else 0) := rfl
    rw [e1, e2, ← ih, hk b]
    by_cases q : b = t
    · subst q; rw [if_pos rfl, hm]; simp
    · rw [if_neg q]
      by_cases q2 : t < b
      · rw [if_pos q2, if_pos (show t < b + 1 by omega)]; omega
      · rw [if_neg q2, if_neg (show ¬ t < b + 1 by omega)]; omega
/-- the longest rise among the first i that ends below v -/
def mxv (l : List Nat) (v : Nat) : Nat → Nat
  | 0 => 0
  | i + 1 => if l.getD i 0 / 2 < v then max (mxv l v i) (1 + ones (rsF l i) (l.getD i 0 / 2)) else mxv l v i
theorem rsF_mem {l : List Nat} {n : Nat} (hc : cOk n l) (hn : n ≤ 16) : ∀ i, i ≤ n → ∀ v, (rsF l i).testBit v = true → ∃ j, j < i ∧ l.getD j 0 / 2 = v := by
  intro i
  induction i with
  | zero => intro _ v h; rw [show rsF l 0 = 0 from rfl, Nat.zero_testBit] at h; cases h
  | succ i ih =>
    intro hi v h
    rcases Nat.decEq v (l.getD i 0 / 2) with q | q
    · have h2 : (rsF l i).testBit v = true := by
        have hs : rsF l (i + 1) = stepR (rsF l i) (l.getD i 0 / 2) := rfl
        rw [hs] at h
        unfold stepR at h
        rw [Nat.testBit_or, Nat.testBit_two_pow, decide_eq_false (fun z => q z.symm), Bool.or_false, Nat.testBit_xor] at h
        cases hb : (rsF l i).testBit v with
        | true => rfl
        | false =>
          exfalso
          rw [hb, Bool.false_xor] at h
          unfold lowb at h
          rw [Nat.testBit_and] at h
          have h := (Bool.and_eq_true_iff.mp h).1
          rw [high_bit, hb, Bool.and_false] at h
          cases h
      obtain ⟨j, hj, e⟩ := ih (by omega) v h2
      exact ⟨j, by omega, e⟩
    · exact ⟨i, by omega, q.symm⟩
theorem rise_at {n : Nat} {l : List Nat} (hc : cOk n l) (ha : cAll n l) (hn : n ≤ 16) : ∀ i, i ≤ n → ∀ v, v ≤ 16 → mxv l v i = ones (rsF l i) v := by
  intro i
  induction i with
  | zero =>
    intro _ v _
    show 0 = ones 0 v
    exact (ct_0 (fun k _ => Nat.zero_testBit k)).symm
  | succ i ih =>
    intro hi v hv
    have hx := hc.lt (i := i) (by omega)
    obtain ⟨x, hxx⟩ : ∃ x, x = l.getD i 0 / 2 := ⟨_, rfl⟩
    have he := rsF_lt hc hn i (by omega)
    have hno : (rsF l i).testBit x = false := by
      cases hb : (rsF l i).testBit x with
      | false => rfl
      | true =>
        obtain ⟨j, hj, e⟩ := rsF_mem hc hn i (by omega) x hb
        have := cd_inj hc ha (i := j) (j := i) (by omega) (by omega) (by rw [cd, cd, e, hxx])
        omega
    have hs : rsF l (i + 1) = stepR (rsF l i) x := by rw [hxx]; rfl
    have hm : mxv l v (i + 1) = if x < v then max (mxv l v i) (1 + ones (rsF l i) x) else mxv l v i := by rw [hxx]; rfl
    rw [hs, hm, ih (by omega) v hv]
    obtain ⟨e, hee⟩ : ∃ e, e = rsF l i := ⟨_, rfl⟩
    rw [← hee] at he hno ⊢
    rcases stepR_bits he hno with ⟨t, t1, t2, t3, t4⟩ | ⟨z1, z2⟩
    · obtain ⟨k, hk⟩ : ∃ k : Nat, ∀ i, k.testBit i = if i = t then false else e.testBit i := ⟨e ^^^ 2 ^ t, fun i => by
        rw [Nat.testBit_xor, Nat.testBit_two_pow]
        by_cases q : i = t
        · subst q; rw [if_pos rfl, t2, decide_eq_true rfl]; rfl
        · rw [if_neg q, decide_eq_false (fun w => q w.symm), Bool.xor_false]⟩
      have h1 := ones_clr t2 hk v
      have h2 := ones_set (m := k) (k := stepR e x) (v := x) (by rw [hk, if_neg (by omega)]; exact hno) (fun i => by rw [t4, hk]) v
      rw [h2]
      by_cases q : x < v
      · rw [if_pos q, if_pos q]
        by_cases q2 : t < v
        · rw [if_pos q2] at h1
          have h3 : ones e x + 1 ≤ ones e v := by
            have h4 : ones e (t + 1) = ones e t + 1 := ct_t t2
            have h5 := ones_split (m := e) (a := x) (b := t) (by omega) t3
            have h6 := ones_mono (m := e) (k := t + 1) (n := v) (by omega)
            omega
          omega
        · rw [if_neg q2] at h1
          have h5 := ones_split (m := e) (a := x) (b := v) (by omega) (fun i a1 a2 => t3 i a1 (by omega))
          omega
      · rw [if_neg q, if_neg q]
        rw [if_neg (by omega)] at h1
        omega
    · have h2 := ones_set (m := e) (k := stepR e x) (v := x) hno z2 v
      rw [h2]
      by_cases q : x < v
      · rw [if_pos q, if_pos q]
        have h5 := ones_split (m := e) (a := x) (b := v) (by omega) (fun i a1 _ => z1 i a1)
        omega
      · rw [if_neg q, if_neg q]; omega
