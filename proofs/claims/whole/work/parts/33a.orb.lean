/-! ===== permutations: pigeons, orbits ===== -/
theorem pig : ∀ (n m : Nat) (f : Nat → Nat), (∀ i, i < m → f i < n) → (∀ i j, i < m → j < m → f i = f j → i = j) → m ≤ n := by
  intro n
  induction n with
  | zero =>
    intro m f h1 _
    cases m with
    | zero => exact Nat.le_refl _
    | succ m => exact absurd (h1 0 (by omega)) (Nat.not_lt_zero _)
  | succ n ih =>
    intro m f h1 h2
    cases m with
    | zero => exact Nat.zero_le _
    | succ m =>
      refine Nat.succ_le_succ (ih m (fun i => if f i = n then f m else f i) (fun i hi => ?_) (fun i j hi hj e => ?_))
      · have a1 := h1 i (by omega)
        have a2 := h1 m (by omega)
        show (if f i = n then f m else f i) < n
        split
        · rename_i e
          have : f m ≠ n := fun q => by have := h2 i m (by omega) (by omega) (by rw [e, q]); omega
          omega
        · omega
      · have e : (if f i = n then f m else f i) = (if f j = n then f m else f j) := e
        split at e
        · rename_i p
          split at e
          · rename_i q; exact h2 i j (by omega) (by omega) (by rw [p, q])
          · have := h2 m j (by omega) (by omega) e; omega
        · split at e
          · have := h2 i m (by omega) (by omega) e; omega
          · exact h2 i j (by omega) (by omega) e
theorem cd_inj {n : Nat} {l : List Nat} (hc : cOk n l) (ha : cAll n l) {i j : Nat} (hi : i < n) (hj : j < n) (e : cd l i = cd l j) : i = j := by
  rcases Nat.decEq i j with q | q
  · exfalso
    have hln := hc.1
    obtain ⟨x, hx⟩ : ∃ x, x = cd l i := ⟨_, rfl⟩
    have hxn : x < n := by rw [hx]; exact hc.lt hi
    have g1 : ∀ y, y < n → ixOf l y < n ∧ cd l (ixOf l y) = y := fun y hy => by have := ixOf_at ha hy; exact ⟨by omega, this.2⟩
    have hne : ∃ z, z < n ∧ cd l z = x ∧ z ≠ ixOf l x := by
      by_cases p : ixOf l x = i
      · exact ⟨j, hj, by rw [hx, e], by omega⟩
      · exact ⟨i, hi, hx.symm, fun w => p w.symm⟩
    obtain ⟨z, z1, z2, z3⟩ := hne
    have hno : ∀ y, y < n → ixOf l y ≠ z := fun y hy p => by
      have := (g1 y hy).2
      rw [p, z2] at this
      rw [← this] at p
      exact z3 p.symm
    have := pig n (n + 1) (fun k => if k < n then ixOf l k else z) (fun k hk => by
      show (if k < n then ixOf l k else z) < n
      split
      · rename_i w; exact (g1 k w).1
      · exact z1) (fun a b h1 h2 e9 => by
      have e9 : (if a < n then ixOf l a else z) = (if b < n then ixOf l b else z) := e9
      split at e9
      · rename_i w1
        split at e9
        · rename_i w2
          have := (g1 a w1).2
          rw [e9, (g1 b w2).2] at this
          exact this.symm
        · exact absurd e9 (hno a w1)
      · split at e9
        · rename_i w1 w2; exact absurd e9.symm (hno b w2)
        · omega)
    omega
  · exact q
theorem itr_add {l : List Nat} {a b s : Nat} : itr l (a + b) s = itr l a (itr l b s) := by
  induction a with
  | zero => rw [Nat.zero_add]; rfl
  | succ a ih => rw [show a + 1 + b = (a + b) + 1 by omega]; simp only [itr]; rw [ih]
theorem itr_inj {n : Nat} {l : List Nat} (hc : cOk n l) (ha : cAll n l) : ∀ (t : Nat) {s r : Nat}, s < n → r < n → itr l t s = itr l t r → s = r := by
  intro t
  induction t with
  | zero => intro s r _ _ e; exact e
  | succ t ih =>
    intro s r hs hr e
    exact ih hs hr (cd_inj hc ha (itr_lt hc hs t) (itr_lt hc hr t) e)
theorem itr_back {n : Nat} {l : List Nat} (hc : cOk n l) (ha : cAll n l) {s : Nat} (hs : s < n) : ∃ t, 1 ≤ t ∧ t ≤ n ∧ itr l t s = s := by
  rcases Classical.em (∃ t, 1 ≤ t ∧ t ≤ n ∧ itr l t s = s) with h | h
  · exact h
  · exfalso
    have := pig n (n + 1) (fun t => itr l t s) (fun t _ => itr_lt hc hs t) (fun i j hi hj e => by
      have e : itr l i s = itr l j s := e
      rcases Nat.lt_trichotomy i j with q | q | q
      · exfalso; refine h ⟨j - i, by omega, by omega, ?_⟩
        rw [show j = i + (j - i) by omega, itr_add] at e
        exact (itr_inj hc ha i hs (itr_lt hc hs _) e).symm
      · exact q
      · exfalso; refine h ⟨i - j, by omega, by omega, ?_⟩
        rw [show i = j + (i - j) by omega, itr_add] at e
        exact itr_inj hc ha j (itr_lt hc hs _) hs e)
    omega
theorem cyl_ret {n : Nat} {l : List Nat} (hc : cOk n l) (ha : cAll n l) {s : Nat} (hs : s < n) : itr l (cyl l n s) s = s := by
  obtain ⟨t, h1, h2, h3⟩ := itr_back hc ha hs
  unfold cyl
  rcases Nat.lt_or_ge (ff (fun t => decide (itr l (t + 1) s = s)) (n - 1)) (n - 1) with q | q
  · exact of_decide_eq_true (ff_yes q)
  · have q2 := ff_le (fun t => decide (itr l (t + 1) s = s)) (n - 1)
    have q3 : t = n := by
      rcases Nat.lt_or_ge (t - 1) (n - 1) with w | w
      · have := ff_no (p := fun t => decide (itr l (t + 1) s = s)) (m := n - 1) (k := t - 1) (by omega)
        have := of_decide_eq_false this
        rw [show t - 1 + 1 = t by omega] at this
        exact absurd h3 this
      · omega
    rw [show ff (fun t => decide (itr l (t + 1) s = s)) (n - 1) + 1 = n by omega, ← q3]
    exact h3
theorem cyl_min {n : Nat} {l : List Nat} {s t : Nat} (h0 : 0 < t) (h : t < cyl l n s) : itr l t s ≠ s := by
  have := ff_no (p := fun t => decide (itr l (t + 1) s = s)) (m := n - 1) (k := t - 1) (by unfold cyl at h; omega)
  have := of_decide_eq_false this
  rw [show t - 1 + 1 = t by omega] at this
  exact this
theorem itr_mul {n : Nat} {l : List Nat} (hc : cOk n l) (ha : cAll n l) {s : Nat} (hs : s < n) (k : Nat) : itr l (cyl l n s * k) s = s := by
  induction k with
  | zero => rfl
  | succ k ih => rw [Nat.mul_succ, itr_add, cyl_ret hc ha hs, ih]
theorem itr_mod {n : Nat} {l : List Nat} (hc : cOk n l) (ha : cAll n l) {s : Nat} (hs : s < n) (t : Nat) : itr l t s = itr l (t % cyl l n s) s := by
  have e := Nat.mod_add_div t (cyl l n s)
  have h : itr l (t % cyl l n s + cyl l n s * (t / cyl l n s)) s = itr l (t % cyl l n s) s := by rw [itr_add, itr_mul hc ha hs]
  rw [e] at h
  exact h
theorem itr_ne {n : Nat} {l : List Nat} (hc : cOk n l) (ha : cAll n l) {s : Nat} (hs : s < n) {i j : Nat} (hi : i < j) (hj : j < cyl l n s) : itr l i s ≠ itr l j s := fun e => by
  rw [show j = i + (j - i) by omega, itr_add] at e
  exact cyl_min (l := l) (n := n) (s := s) (t := j - i) (by omega) (by omega) (itr_inj hc ha i hs (itr_lt hc hs _) e).symm
/-- from anywhere on the orbit one comes back -/
theorem itr_sym {n : Nat} {l : List Nat} (hc : cOk n l) (ha : cAll n l) {s : Nat} (hs : s < n) (t : Nat) : ∃ u, itr l u (itr l t s) = s := by
  refine ⟨cyl l n s * t - t, ?_⟩
  have h1 : t ≤ cyl l n s * t := Nat.le_mul_of_pos_left _ cyl_pos
  rw [← itr_add, show cyl l n s * t - t + t = cyl l n s * t by omega, itr_mul hc ha hs]
theorem ff_cong {p q : Nat → Bool} {m : Nat} (h : ∀ k, p k = q k) : ff p m = ff q m := by rw [show p = q from funext h]
theorem cyl_cd {n : Nat} {l : List Nat} (hc : cOk n l) (ha : cAll n l) {s : Nat} (hs : s < n) : cyl l n (cd l s) = cyl l n s := by
  unfold cyl
  congr 1
  refine ff_cong (fun k => decide_eq_decide.mpr ?_)
  have e : itr l (k + 1) (cd l s) = cd l (itr l (k + 1) s) := by
    have h1 : cd l s = itr l 1 s := rfl
    rw [h1, ← itr_add, show k + 1 + 1 = 1 + (k + 1) by omega, itr_add]
    rfl
  rw [e]
  exact ⟨fun w => cd_inj hc ha (itr_lt hc hs _) hs w, fun w => by rw [w]⟩
theorem cyl_itr {n : Nat} {l : List Nat} (hc : cOk n l) (ha : cAll n l) {s : Nat} (hs : s < n) (t : Nat) : cyl l n (itr l t s) = cyl l n s := by
  induction t with
  | zero => rfl
  | succ t ih => show cyl l n (cd l (itr l t s)) = _; rw [cyl_cd hc ha (itr_lt hc hs t), ih]
/-- whether x is on the orbit of something below k -/
def onO (l : List Nat) (k x : Nat) : Prop := ∃ p, p < k ∧ ∃ t, itr l t p = x
theorem lsr_mem {l : List Nat} {s : Nat} (t : Nat) : ∃ u, lsr l s t = itr l u s := by
  induction t with
  | zero => exact ⟨0, rfl⟩
  | succ t ih =>
    obtain ⟨u, hu⟩ := ih
    rcases Nat.le_total (lsr l s t) (itr l (t + 1) s) with q | q
    · exact ⟨u, by rw [← hu]; exact Nat.min_eq_left q⟩
    · exact ⟨t + 1, Nat.min_eq_right q⟩
theorem lsr_low {l : List Nat} {s : Nat} {u : Nat} : ∀ t, u ≤ t → lsr l s t ≤ itr l u s := by
  intro t
  induction t with
  | zero => intro h; rw [show u = 0 by omega]; exact Nat.le_refl _
  | succ t ih =>
    intro h
    rcases Nat.lt_or_ge t u with q | q
    · rw [show u = t + 1 by omega]; exact Nat.min_le_right _ _
    · exact Nat.le_trans (Nat.min_le_left _ _) (ih q)
/-- k is the least of its orbit just if it's on none of those before -/
theorem lsr_iff {n : Nat} {l : List Nat} (hc : cOk n l) (ha : cAll n l) {k : Nat} (hk : k < n) : lsr l k n = k ↔ ¬ onO l k k := by
  refine ⟨fun h ⟨p, hp, t, ht⟩ => ?_, fun h => ?_⟩
  · have hpn : p < n := by omega
    obtain ⟨u, hu⟩ := itr_sym hc ha hpn t
    rw [ht] at hu
    have h2 := itr_mod hc ha hk u
    have h3 := Nat.mod_lt u (cyl_pos (l := l) (n := n) (s := k))
    have h4 := cyl_le (l := l) (n := n) (s := k) (by omega)
    have h5 := lsr_low (l := l) (s := k) (u := u % cyl l n k) n (by omega)
    rw [← h2, hu] at h5
    omega
  · obtain ⟨u, hu⟩ := lsr_mem (l := l) (s := k) n
    have h1 := lsr_le (l := l) (s := k) n
    rcases Nat.lt_or_ge (lsr l k n) k with q | q
    · exfalso
      obtain ⟨v, hv⟩ := itr_sym hc ha hk u
      exact h ⟨lsr l k n, q, v, by rw [hu]; exact hv⟩
    · omega
theorem ppd_mem {l : List Nat} {n p k : Nat} (h : p < k) : cyl l n p ∣ ppd l n k := by
  induction k with
  | zero => omega
  | succ k ih =>
    rcases Nat.lt_or_ge p k with q | q
    · exact Nat.dvd_trans (ih q) (Nat.dvd_lcm_left _ _)
    · rw [show p = k by omega]; exact Nat.dvd_lcm_right _ _
theorem lgs_mem {l : List Nat} {n p k : Nat} (h : p < k) : cyl l n p ≤ lgs l n k := by
  induction k with
  | zero => omega
  | succ k ih =>
    rcases Nat.lt_or_ge p k with q | q
    · exact Nat.le_trans (ih q) (Nat.le_max_left _ _)
    · rw [show p = k by omega]; exact Nat.le_max_right _ _
/-- what stage k adds where k is on an orbit that was seen -/
theorem seen_same {n : Nat} {l : List Nat} (hc : cOk n l) (ha : cAll n l) {k : Nat} (hk : k < n) (h : onO l k k) : cyc l n = cyc l n ∧ ¬ lsr l k n = k ∧ ¬ cd l k = k ∧ ppd l n (k + 1) = ppd l n k ∧ lgs l n (k + 1) = lgs l n k ∧ ∀ x, onO l (k + 1) x ↔ onO l k x := by
  obtain ⟨p, hp, t, ht⟩ := h
  have hpn : p < n := by omega
  have hcy : cyl l n k = cyl l n p := by rw [← ht]; exact cyl_itr hc ha hpn t
  obtain ⟨u, hu⟩ := itr_sym hc ha hpn t
  rw [ht] at hu
  refine ⟨rfl, fun q => (lsr_iff hc ha hk).mp q ⟨p, hp, t, ht⟩, fun q => ?_, ?_, ?_, fun x => ⟨fun ⟨r, hr, v, hv⟩ => ?_, fun ⟨r, hr, v, hv⟩ => ⟨r, by omega, v, hv⟩⟩⟩
  · have h9 : ∀ v, itr l v k = k := fun v => by
      induction v with
      | zero => rfl
      | succ v ih => show cd l (itr l v k) = k; rw [ih]; exact q
    rw [h9 u] at hu
    omega
  · show Nat.lcm (ppd l n k) (cyl l n k) = _
    rw [hcy]
    exact Nat.lcm_eq_left (ppd_mem hp)
  · show max (lgs l n k) (cyl l n k) = _
    rw [hcy]
    exact Nat.max_eq_left (lgs_mem hp)
  · rcases Nat.lt_or_ge r k with w | w
    · exact ⟨r, w, v, hv⟩
    · refine ⟨p, hp, v + t, ?_⟩
      rw [itr_add, ht, ← show r = k by omega]
      exact hv
/-- where k is on none, nothing of its orbit is -/
theorem new_all {n : Nat} {l : List Nat} (hc : cOk n l) (ha : cAll n l) {k : Nat} (hk : k < n) (h : ¬ onO l k k) (t : Nat) : ¬ onO l k (itr l t k) := fun ⟨p, hp, u, hu⟩ => by
  obtain ⟨v, hv⟩ := itr_sym hc ha hk t
  exact h ⟨p, hp, v + u, by rw [itr_add, hu]; exact hv⟩
theorem onO_next {n : Nat} {l : List Nat} (hc : cOk n l) (ha : cAll n l) {k : Nat} (hk : k < n) (x : Nat) : onO l (k + 1) x ↔ (onO l k x ∨ ∃ u, u < cyl l n k ∧ itr l u k = x) := by
  refine ⟨fun ⟨r, hr, v, hv⟩ => ?_, fun h => ?_⟩
  · rcases Nat.lt_or_ge r k with w | w
    · exact Or.inl ⟨r, w, v, hv⟩
    · rw [show r = k by omega] at hv
      exact Or.inr ⟨v % cyl l n k, Nat.mod_lt _ cyl_pos, by rw [← itr_mod hc ha hk]; exact hv⟩
  · rcases h with ⟨r, hr, v, hv⟩ | ⟨u, -, hu⟩
    · exact ⟨r, by omega, v, hv⟩
    · exact ⟨k, by omega, u, hu⟩
theorem cyl_one {n : Nat} {l : List Nat} (hc : cOk n l) (ha : cAll n l) {k : Nat} (hk : k < n) : cyl l n k = 1 ↔ cd l k = k := by
  refine ⟨fun h => ?_, fun h => ?_⟩
  · have := cyl_ret hc ha hk
    rw [h] at this
    exact this
  · rcases Nat.lt_or_ge 1 (cyl l n k) with q | q
    · exact absurd h (cyl_min (l := l) (n := n) (s := k) (t := 1) (by omega) q)
    · have := cyl_pos (l := l) (n := n) (s := k); omega
theorem lcm_div (a b : Nat) : a / Nat.gcd a b * b = Nat.lcm a b := by
  unfold Nat.lcm
  exact Nat.div_mul_right_comm (Nat.gcd_dvd_left a b) b
