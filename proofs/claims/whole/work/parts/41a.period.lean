/-! ===== the period: the first time that a way is still, and how great it can be ===== -/
def pw (n : Nat) (z : List Nat) : Nat → List Nat
  | 0 => idL n
  | t + 1 => fol (pw n z t) z
theorem fol_idl {n : Nat} {z : List Nat} (hz : cOk n z) : fol (idL n) z = z := by
  refine l_ext fol_len (fun i hi => ?_)
  rw [fol_len] at hi
  have h := hz.2 i hi
  rw [fol_at hi, idL_at h]
  have e := Nat.div_add_mod (z.getD i 0) 2
  rcases (show z.getD i 0 % 2 = 0 ∨ z.getD i 0 % 2 = 1 by omega) with q | q
  · rw [q, Nat.xor_zero]; omega
  · have hx : ∀ a : Nat, 2 * a ^^^ 1 = 2 * a + 1 := fun a => by
      apply Nat.eq_of_testBit_eq
      intro j
      cases j with
      | zero => rw [Nat.testBit_xor, Nat.testBit_zero, Nat.testBit_zero, Nat.testBit_zero]; simp
      | succ j => rw [Nat.testBit_xor, Nat.testBit_succ, Nat.testBit_succ, Nat.testBit_succ, show 2 * a / 2 = a by omega, show 1 / 2 = 0 by omega, show (2 * a + 1) / 2 = a by omega, Nat.zero_testBit, Bool.xor_false]
    rw [q, hx]; omega
theorem pw_one {n : Nat} {z : List Nat} (hz : cOk n z) : pw n z 1 = z := fol_idl hz
theorem pw_cOk {n : Nat} {z : List Nat} (hz : cOk n z) (t : Nat) : cOk n (pw n z t) := by
  induction t with
  | zero => exact idL_cOk
  | succ t ih => exact fol_cOk ih hz
theorem pw_cd {n : Nat} {z : List Nat} (hz : cOk n z) : ∀ (t i : Nat), i < n → cd (pw n z t) i = itr z t i := by
  intro t
  induction t with
  | zero => intro i hi; show (idL n).getD i 0 / 2 = i; rw [idL_at hi]; omega
  | succ t ih =>
    intro i hi
    have hi2 : i < z.length := by rw [hz.1]; exact hi
    show (fol (pw n z t) z).getD i 0 / 2 = _
    rw [fol_h hi2]
    have h1 := ih (cd z i) (hz.lt hi)
    show cd (pw n z t) (cd z i) = _
    rw [h1, show cd z i = itr z 1 i from rfl, ← itr_add]
theorem tvx_add {z : List Nat} {s b : Nat} : ∀ a, tvx z s (a + b) = ((tvx z s b) != (tvx z (itr z b s) a)) := by
  intro a
  induction a with
  | zero => rw [Nat.zero_add]; show tvx z s b = (tvx z s b != false); cases tvx z s b <;> rfl
  | succ a ih =>
    rw [show a + 1 + b = (a + b) + 1 by omega]
    show (tvx z s (a + b) != up z (itr z (a + b) s)) = (tvx z s b != (tvx z (itr z b s) a != up z (itr z a (itr z b s))))
    rw [ih, itr_add]
    cases tvx z s b <;> cases tvx z (itr z b s) a <;> cases up z (itr z a (itr z b s)) <;> rfl
theorem pw_up {n : Nat} {z : List Nat} (hz : cOk n z) : ∀ (t i : Nat), i < n → up (pw n z t) i = tvx z i t := by
  intro t
  induction t with
  | zero => intro i hi; show decide ((idL n).getD i 0 % 2 = 1) = false; rw [idL_at hi]; exact decide_eq_false (by omega)
  | succ t ih =>
    intro i hi
    have hi2 : i < z.length := by rw [hz.1]; exact hi
    have h1 := ih (cd z i) (hz.lt hi)
    have h2 := tvx_add (z := z) (s := i) (b := 1) t
    have h3 : tvx z i 1 = up z i := by show (false != up z i) = _; cases up z i <;> rfl
    rw [h3, show itr z 1 i = cd z i from rfl] at h2
    show decide ((fol (pw n z t) z).getD i 0 % 2 = 1) = _
    rw [fol_u hi2, h2]
    have h4 : decide ((pw n z t).getD (z.getD i 0 / 2) 0 % 2 = 1) = tvx z (cd z i) t := h1
    rw [h4]
    show (tvx z (cd z i) t != up z i) = _
    cases up z i <;> cases tvx z (cd z i) t <;> rfl
theorem itr_dvd {n : Nat} {z : List Nat} (hz : cOk n z) (ha : cAll n z) {i t : Nat} (hi : i < n) : itr z t i = i ↔ cyl z n i ∣ t := by
  refine ⟨fun h => ?_, fun ⟨k, hk⟩ => by rw [hk]; exact itr_mul hz ha hi k⟩
  rw [itr_mod hz ha hi] at h
  have h1 := Nat.mod_lt t (cyl_pos (l := z) (n := n) (s := i))
  rcases Nat.eq_zero_or_pos (t % cyl z n i) with q | q
  · exact Nat.dvd_of_mod_eq_zero q
  · exact absurd h (cyl_min q h1)
theorem tvx_mul {n : Nat} {z : List Nat} (hz : cOk n z) (ha : cAll n z) {i : Nat} (hi : i < n) (k : Nat) : tvx z i (cyl z n i * k) = (decide (k % 2 = 1) && tov z n i) := by
  induction k with
  | zero => rfl
  | succ k ih =>
    have h := tvx_add (z := z) (s := i) (b := cyl z n i * k) (cyl z n i)
    rw [itr_mul hz ha hi k, ih, show cyl z n i + cyl z n i * k = cyl z n i * (k + 1) by rw [Nat.mul_succ]; omega] at h
    rw [h]
    show _ = (decide ((k + 1) % 2 = 1) && tov z n i)
    have e : tvx z i (cyl z n i) = tov z n i := rfl
    rw [e]
    rcases (show k % 2 = 0 ∨ k % 2 = 1 by omega) with q | q
    · rw [decide_eq_false (show ¬ k % 2 = 1 by omega), decide_eq_true (show (k + 1) % 2 = 1 by omega)]; cases tov z n i <;> rfl
    · rw [decide_eq_true q, decide_eq_false (show ¬ (k + 1) % 2 = 1 by omega)]; cases tov z n i <;> rfl
theorem rnd_iff {n : Nat} {z : List Nat} (hz : cOk n z) (ha : cAll n z) {i t : Nat} (hi : i < n) : (itr z t i = i ∧ tvx z i t = false) ↔ (if tov z n i then 2 else 1) * cyl z n i ∣ t := by
  refine ⟨fun ⟨h1, h2⟩ => ?_, fun h => ?_⟩
  · obtain ⟨k, hk⟩ := (itr_dvd hz ha hi).mp h1
    rw [hk, tvx_mul hz ha hi k] at h2
    cases ht : tov z n i with
    | false => simp; exact ⟨k, hk⟩
    | true =>
      rw [ht, Bool.and_true] at h2
      have := of_decide_eq_false h2
      obtain ⟨j, hj⟩ : ∃ j, k = 2 * j := ⟨k / 2, by omega⟩
      simp
      exact ⟨j, by rw [hk, hj, ← Nat.mul_assoc, Nat.mul_comm (cyl z n i) 2]⟩
  · obtain ⟨j, hj⟩ := h
    cases ht : tov z n i with
    | false =>
      rw [ht] at hj
      simp at hj
      rw [hj, tvx_mul hz ha hi, ht, Bool.and_false]
      exact ⟨itr_mul hz ha hi j, rfl⟩
    | true =>
      rw [ht] at hj
      simp at hj
      have e : t = cyl z n i * (2 * j) := by rw [hj, Nat.mul_comm 2 (cyl z n i), Nat.mul_assoc]
      rw [e, tvx_mul hz ha hi, decide_eq_false (by omega)]
      exact ⟨itr_mul hz ha hi _, rfl⟩
theorem fpd_iff {z : List Nat} {n t : Nat} : ∀ k, fpd z n k ∣ t ↔ ∀ i, i < k → (if tov z n i then 2 else 1) * cyl z n i ∣ t := by
  intro k
  induction k with
  | zero => exact ⟨fun _ i hi => absurd hi (Nat.not_lt_zero _), fun _ => Nat.one_dvd _⟩
  | succ k ih =>
    refine ⟨fun h i hi => ?_, fun h => Nat.lcm_dvd (ih.mpr (fun i hi => h i (by omega))) (h k (by omega))⟩
    rcases Nat.lt_or_ge i k with q | q
    · exact ih.mp (Nat.dvd_trans (Nat.dvd_lcm_left _ _) h) i q
    · rw [show i = k by omega]; exact Nat.dvd_trans (Nat.dvd_lcm_right _ _) h
theorem still_iff {n : Nat} {z : List Nat} (hz : cOk n z) (ha : cAll n z) (t : Nat) : stillL (pw n z t) ↔ fpd z n n ∣ t := by
  rw [fpd_iff]
  have hl := (pw_cOk hz t).1
  refine ⟨fun h i hi => (rnd_iff hz ha hi).mp ?_, fun h i hi => ?_⟩
  · have h1 := h i (by omega)
    have h2 := pw_cd hz t i hi
    have h3 := pw_up hz t i hi
    rw [← h2, ← h3]
    unfold cd up
    rw [h1]
    exact ⟨by omega, decide_eq_false (by omega)⟩
  · have hi2 : i < n := by omega
    obtain ⟨h1, h2⟩ := (rnd_iff hz ha hi2).mpr (h i hi2)
    rw [← pw_cd hz t i hi2] at h1
    rw [← pw_up hz t i hi2] at h2
    unfold cd at h1
    have h2 := of_decide_eq_false h2
    omega
theorem pigC : ∀ (n m : Nat) (P : Nat → Bool) (f : Nat → Nat), (∀ i, i < m → f i < n ∧ P (f i) = true) → (∀ i j, i < m → j < m → f i = f j → i = j) → m ≤ ct P n := by
  intro n
  induction n with
  | zero =>
    intro m P f h1 _
    cases m with
    | zero => exact Nat.le_refl _
    | succ m => exact absurd (h1 0 (by omega)).1 (Nat.not_lt_zero _)
  | succ n ih =>
    intro m P f h1 h2
    by_cases hex : ∃ j, j < m ∧ f j = n
    · obtain ⟨j, hj, hjn⟩ := hex
      have hP : P n = true := by rw [← hjn]; exact (h1 j hj).2
      rw [ct_t hP]
      cases m with
      | zero => omega
      | succ m =>
        refine Nat.succ_le_succ (ih m P (fun i => if f i = n then f m else f i) (fun i hi => ?_) (fun i k hi hk e => ?_))
        · have a1 := h1 i (by omega)
          have a2 := h1 m (by omega)
          show (if f i = n then f m else f i) < n ∧ P (if f i = n then f m else f i) = true
          split
          · rename_i e
            have : f m ≠ n := fun q => by have := h2 i m (by omega) (by omega) (by rw [e, q]); omega
            exact ⟨by omega, a2.2⟩
          · exact ⟨by omega, a1.2⟩
        · have e : (if f i = n then f m else f i) = (if f k = n then f m else f k) := e
          split at e
          · rename_i p
            split at e
            · rename_i q; exact h2 i k (by omega) (by omega) (by rw [p, q])
            · have := h2 m k (by omega) (by omega) e; omega
          · split at e
            · have := h2 i m (by omega) (by omega) e; omega
            · exact h2 i k (by omega) (by omega) e
    · have := ih m P f (fun i hi => ⟨by have := (h1 i hi).1; have : f i ≠ n := fun q => hex ⟨i, hi, q⟩; omega, (h1 i hi).2⟩) h2
      have h3 : ct P n ≤ ct P (n + 1) := by simp only [ct]; omega
      omega
/-- as many places lie on cycles of length c as c tells at least, where there is one -/
theorem cyl_cnt {n : Nat} {z : List Nat} (hz : cOk n z) (ha : cAll n z) {s : Nat} (hs : s < n) : cyl z n s ≤ ct (fun i => decide (cyl z n i = cyl z n s)) n :=
  pigC n _ _ (fun t => itr z t s) (fun t _ => ⟨itr_lt hz hs t, decide_eq_true (cyl_itr hz ha hs t)⟩) (fun i j hi hj e => by
    rcases Nat.lt_trichotomy i j with q | q | q
    · exact absurd e (itr_ne hz ha hs q hj)
    · exact q
    · exact absurd e.symm (itr_ne hz ha hs q hi))
theorem sm_ind {N c0 : Nat} (h : c0 < N) : sm (fun c => if c0 = c then 1 else 0) N = 1 := by
  induction N with
  | zero => omega
  | succ N ih =>
    simp only [sm]
    by_cases q : c0 = N
    · rw [if_pos q]
      have : sm (fun c => if c0 = c then 1 else 0) N = 0 := sm_z (fun k hk => if_neg (by omega))
      omega
    · rw [if_neg q, ih (by omega)]
theorem sm_plus {f g : Nat → Nat} {N : Nat} : sm (fun c => f c + g c) N = sm f N + sm g N := by
  induction N with
  | zero => rfl
  | succ N ih => simp only [sm]; rw [ih]; omega
theorem cyl_sum {n N : Nat} {z : List Nat} (hN : ∀ i, cyl z n i < N) : ∀ k, sm (fun c => ct (fun i => decide (cyl z n i = c)) k) N = k := by
  intro k
  induction k with
  | zero => exact sm_z (fun c _ => rfl)
  | succ k ih =>
    have e : (fun c => ct (fun i => decide (cyl z n i = c)) (k + 1)) = fun c => ct (fun i => decide (cyl z n i = c)) k + (if cyl z n k = c then 1 else 0) := by
      funext c
      simp [ct]
    rw [e, sm_plus, ih, sm_ind (hN k)]
def lcmS (B : Nat → Bool) : Nat → Nat
  | 0 => 1
  | c + 1 => if B (c + 1) then Nat.lcm (lcmS B c) (c + 1) else lcmS B c
def sumS (B : Nat → Bool) : Nat → Nat
  | 0 => 0
  | c + 1 => sumS B c + (if B (c + 1) then c + 1 else 0)
def lmx : Nat → Nat → Nat → Nat
  | 0, _, a => a
  | c + 1, b, a => if c + 1 ≤ b then max (lmx c b a) (lmx c (b - (c + 1)) (Nat.lcm a (c + 1))) else lmx c b a
theorem lmx_le {B : Nat → Bool} : ∀ N b a, sumS B N ≤ b → Nat.lcm a (lcmS B N) ≤ lmx N b a := by
  intro N
  induction N with
  | zero => intro b a _; show Nat.lcm a 1 ≤ a; rw [Nat.lcm_one_right]; exact Nat.le_refl _
  | succ N ih =>
    intro b a h
    simp only [sumS] at h
    unfold lcmS lmx
    cases hB : B (N + 1) with
    | true =>
      rw [hB, if_pos rfl] at h
      rw [if_pos rfl, if_pos (by omega)]
      have h1 := ih (b - (N + 1)) (Nat.lcm a (N + 1)) (by omega)
      have e : Nat.lcm a (Nat.lcm (lcmS B N) (N + 1)) = Nat.lcm (Nat.lcm a (N + 1)) (lcmS B N) := by rw [Nat.lcm_comm (lcmS B N) (N + 1), Nat.lcm_assoc]
      rw [e]
      exact Nat.le_trans h1 (Nat.le_max_right _ _)
    | false =>
      rw [hB] at h
      have h1 := ih b a (by simpa using h)
      rw [if_neg (by decide)]
      split
      · exact Nat.le_trans h1 (Nat.le_max_left _ _)
      · exact h1
theorem lmx_16 : ∀ n, n < 17 → lmx n n 1 ≤ 140 := by decide +kernel
theorem lmx_8 : lmx 8 8 1 = 15 := by decide +kernel
theorem lcmS_mem {B : Nat → Bool} {N c : Nat} (h : c ≤ N) (h0 : 0 < c) (hB : B c = true) : c ∣ lcmS B N := by
  induction N with
  | zero => omega
  | succ N ih =>
    unfold lcmS
    rcases Nat.lt_or_ge N c with q | q
    · have e : c = N + 1 := by omega
      subst e
      rw [if_pos hB]
      exact Nat.dvd_lcm_right _ _
    · have := ih q
      split
      · exact Nat.dvd_trans this (Nat.dvd_lcm_left _ _)
      · exact this
theorem lcmS_pos {B : Nat → Bool} (N : Nat) : 0 < lcmS B N := by
  induction N with
  | zero => exact Nat.one_pos
  | succ N ih =>
    unfold lcmS
    split
    · exact Nat.lcm_pos ih (Nat.succ_pos _)
    · exact ih
theorem sumS_le {B : Nat → Bool} {f : Nat → Nat} (hf : ∀ c, B c = true → c ≤ f c) : ∀ N, sumS B N ≤ sm f (N + 1) := by
  intro N
  induction N with
  | zero => exact Nat.zero_le _
  | succ N ih =>
    have e : sm f (N + 1 + 1) = sm f (N + 1) + f (N + 1) := rfl
    rw [e]
    simp only [sumS]
    split
    · rename_i h; have := hf (N + 1) h; omega
    · omega
theorem ppd_le {n : Nat} {z : List Nat} (hz : cOk n z) (ha : cAll n z) (h0 : 0 < n) : ppd z n n ≤ lmx n n 1 := by
  have hcl : ∀ i, cyl z n i ≤ n := fun i => cyl_le h0
  have hB : ∀ c, decide (0 < ct (fun i => decide (cyl z n i = c)) n) = true → c ≤ ct (fun i => decide (cyl z n i = c)) n := fun c hc => by
    obtain ⟨i, hi, hic⟩ := ct_pos (of_decide_eq_true hc)
    have hic := of_decide_eq_true hic
    have := cyl_cnt hz ha hi
    rw [hic] at this
    exact this
  have hs := sumS_le (B := fun c => decide (0 < ct (fun i => decide (cyl z n i = c)) n)) hB n
  rw [cyl_sum (N := n + 1) (fun i => by have := hcl i; omega) n] at hs
  have h1 := lmx_le n n 1 hs
  rw [Nat.lcm_one_left] at h1
  have hd : ∀ k, k ≤ n → ppd z n k ∣ lcmS (fun c => decide (0 < ct (fun i => decide (cyl z n i = c)) n)) n := fun k => by
    induction k with
    | zero => intro _; exact Nat.one_dvd _
    | succ k ih =>
      intro hk
      exact Nat.lcm_dvd (ih (by omega)) (lcmS_mem (hcl k) cyl_pos (decide_eq_true (ct_ge (k := k) (by omega) (decide_eq_true rfl))))
  exact Nat.le_trans (Nat.le_of_dvd (lcmS_pos n) (hd n (Nat.le_refl _))) h1
theorem fpd_two {z : List Nat} {n : Nat} : ∀ k, fpd z n k ∣ 2 * ppd z n k := by
  intro k
  induction k with
  | zero => exact Nat.one_dvd _
  | succ k ih =>
    refine Nat.lcm_dvd (Nat.dvd_trans ih (Nat.mul_dvd_mul_left 2 (Nat.dvd_lcm_left _ _))) ?_
    have h1 : cyl z n k ∣ Nat.lcm (ppd z n k) (cyl z n k) := Nat.dvd_lcm_right _ _
    show _ ∣ 2 * Nat.lcm (ppd z n k) (cyl z n k)
    split
    · exact Nat.mul_dvd_mul_left 2 h1
    · rw [Nat.one_mul]; exact Nat.dvd_trans h1 ⟨2, Nat.mul_comm _ _⟩
theorem ppd_pos {z : List Nat} {n : Nat} (k : Nat) : 0 < ppd z n k := by
  induction k with
  | zero => exact Nat.one_pos
  | succ k ih => exact Nat.lcm_pos ih cyl_pos
theorem fpd_pos {z : List Nat} {n : Nat} (k : Nat) : 0 < fpd z n k := by
  induction k with
  | zero => exact Nat.one_pos
  | succ k ih => exact Nat.lcm_pos ih (Nat.mul_pos (by split <;> omega) cyl_pos)
theorem fpd_le {n : Nat} {z : List Nat} (hz : cOk n z) (ha : cAll n z) (h0 : 0 < n) (hn : n ≤ 16) : fpd z n n ≤ 280 := by
  have h1 := Nat.le_of_dvd (by have := ppd_pos (z := z) (n := n) n; omega) (fpd_two (z := z) (n := n) n)
  have h2 := ppd_le hz ha h0
  have h3 := lmx_16 n (by omega)
  omega
theorem fpd_8 {z : List Nat} (hz : cOk 8 z) (ha : cAll 8 z) : fpd z 8 8 ≤ 30 := by
  have h1 := Nat.le_of_dvd (by have := ppd_pos (z := z) (n := 8) 8; omega) (fpd_two (z := z) (n := 8) 8)
  have h2 := ppd_le hz ha (by decide)
  rw [lmx_8] at h2
  omega
