/-! ===== riffle: the class's search and the model's answer ===== -/
theorem ixOf_cd {n : Nat} {l : List Nat} (hc : cOk n l) (ha : cAll n l) {i : Nat} (hi : i < n) : ixOf l (cd l i) = i := by
  have h1 := ixOf_at ha (x := cd l i) (hc.lt hi)
  have hln := hc.1
  exact cd_inj hc ha (by omega) hi h1.2
/-- no number but f comes ahead of the one before it -/
def noD (l : List Nat) (n f : Nat) : Prop := ∀ x, x + 1 < n → x + 1 ≠ f → ixOf l x < ixOf l (x + 1)
theorem noD_up {l : List Nat} {n f : Nat} (D : noD l n f) : ∀ k u, u + k + 1 < n → (u + k + 1 < f ∨ f ≤ u) → ixOf l u < ixOf l (u + k + 1) := by
  intro k
  induction k with
  | zero => intro u h1 h2; exact D u h1 (by omega)
  | succ k ih =>
    intro u h1 h2
    have a1 := ih u (by omega) (by omega)
    have a2 := D (u + k + 1) (by omega) (by omega)
    rw [show u + (k + 1) + 1 = u + k + 1 + 1 by omega]
    omega
theorem fit_ind {n f : Nat} {l : List Nat} (hc : cOk n l) (ha : cAll n l) (D : noD l n f) (hf : f ≤ n) : ∀ i, i ≤ n → ones (plf l f n) i ≤ i ∧ (∀ v, v < f → (ixOf l v < i ↔ v < i - ones (plf l f n) i)) ∧ ∀ v, f ≤ v → v < n → (ixOf l v < i ↔ v < f + ones (plf l f n) i) := by
  intro i
  induction i with
  | zero => intro _; exact ⟨Nat.le_refl _, fun v _ => ⟨fun h => absurd h (Nat.not_lt_zero _), fun h => absurd h (by show ¬ v < 0 - _; omega)⟩, fun v hv _ => ⟨fun h => absurd h (Nat.not_lt_zero _), fun h => absurd h (by show ¬ v < f + 0; omega)⟩⟩
  | succ i ih =>
    intro hi
    obtain ⟨h0, h1, h2⟩ := ih (by omega)
    have hcl := hc.lt (i := i) (by omega)
    have hix := ixOf_cd hc ha (i := i) (by omega)
    have hbit := plf_bit (l := l) (a := f) n i
    rw [decide_eq_true (show i < n by omega), Bool.true_and] at hbit
    have hne : ∀ v, v < n → v ≠ cd l i → ixOf l v ≠ i := fun v hv hq w => by have := (ixOf_at ha hv).2; rw [w] at this; exact hq this.symm
    by_cases q : f ≤ cd l i
    · rw [decide_eq_true q] at hbit
      have e : ones (plf l f n) (i + 1) = ones (plf l f n) i + 1 := ct_t hbit
      have hge : f + ones (plf l f n) i ≤ cd l i := by
        rcases Nat.lt_or_ge (cd l i) (f + ones (plf l f n) i) with w | w
        · have := (h2 (cd l i) q hcl).mpr w; omega
        · exact w
      have hle : cd l i ≤ f + ones (plf l f n) i := by
        rcases Nat.lt_or_ge (f + ones (plf l f n) i) (cd l i) with w | w
        · have a1 := noD_up D (cd l i - (f + ones (plf l f n) i) - 1) (f + ones (plf l f n) i) (by unfold cd at *; omega) (by omega)
          rw [show f + ones (plf l f n) i + (cd l i - (f + ones (plf l f n) i) - 1) + 1 = cd l i by omega, hix] at a1
          have := (h2 (f + ones (plf l f n) i) (by omega) (by unfold cd at *; omega)).mp a1
          omega
        · exact w
      refine ⟨by omega, fun v hv => ?_, fun v hv hvn => ?_⟩
      · rw [e]
        have a := h1 v hv
        have b := hne v (by omega) (by omega)
        rw [show i + 1 - (ones (plf l f n) i + 1) = i - ones (plf l f n) i by omega]
        exact ⟨fun w => a.mp (by omega), fun w => by have := a.mpr w; omega⟩
      · rw [e]
        have a := h2 v hv hvn
        by_cases z : v = cd l i
        · rw [z, hix]; exact ⟨fun _ => by omega, fun _ => by omega⟩
        · have b := hne v hvn z
          exact ⟨fun w => by have := a.mp (by omega); omega, fun w => by have := a.mpr (by omega); omega⟩
    · rw [decide_eq_false q] at hbit
      have e : ones (plf l f n) (i + 1) = ones (plf l f n) i := ct_f hbit
      have hge : i - ones (plf l f n) i ≤ cd l i := by
        rcases Nat.lt_or_ge (cd l i) (i - ones (plf l f n) i) with w | w
        · have := (h1 (cd l i) (by omega)).mpr w; omega
        · exact w
      have hle : cd l i ≤ i - ones (plf l f n) i := by
        rcases Nat.lt_or_ge (i - ones (plf l f n) i) (cd l i) with w | w
        · have a1 := noD_up D (cd l i - (i - ones (plf l f n) i) - 1) (i - ones (plf l f n) i) (by unfold cd at *; omega) (by omega)
          rw [show i - ones (plf l f n) i + (cd l i - (i - ones (plf l f n) i) - 1) + 1 = cd l i by omega, hix] at a1
          have := (h1 (i - ones (plf l f n) i) (by omega)).mp a1
          omega
        · exact w
      refine ⟨by omega, fun v hv => ?_, fun v hv hvn => ?_⟩
      · rw [e]
        have a := h1 v hv
        by_cases z : v = cd l i
        · rw [z, hix]; exact ⟨fun _ => by omega, fun _ => by omega⟩
        · have b := hne v (by omega) z
          exact ⟨fun w => by have := a.mp (by omega); omega, fun w => by have := a.mpr (by omega); omega⟩
      · rw [e]
        have a := h2 v hv hvn
        have b := hne v hvn (by omega)
        exact ⟨fun w => a.mp (by omega), fun w => by have := a.mpr w; omega⟩
theorem fit_yes {n f : Nat} {l : List Nat} (hc : cOk n l) (ha : cAll n l) (D : noD l n f) (hf : f ≤ n) : ∀ i, i < n → (layL 8 (plf l f n) n).getD i 0 / 2 = cd l i := by
  have hbase : n - ones (plf l f n) n = f := by
    obtain ⟨h0, h1, h2⟩ := fit_ind hc ha D hf n (Nat.le_refl _)
    have hln := hc.1
    have a1 : f ≤ n - ones (plf l f n) n := by
      rcases Nat.eq_zero_or_pos f with z | z
      · omega
      · have := (h1 (f - 1) (by omega)).mp (by have := (ixOf_at ha (x := f - 1) (by omega)).1; omega)
        omega
    have a2 : n ≤ f + ones (plf l f n) n := by
      rcases Nat.lt_or_ge f n with z | z
      · have := (h2 (n - 1) (by omega) (by omega)).mp (by have := (ixOf_at ha (x := n - 1) (by omega)).1; omega)
        omega
      · omega
    omega
  intro i hi
  rw [show layL 8 (plf l f n) n = rif (plf l f n) n n from rfl, rif_at n (Nat.le_refl _) i hi, hbase]
  obtain ⟨h0, h1, h2⟩ := fit_ind hc ha D hf i (by omega)
  obtain ⟨g0, g1, g2⟩ := fit_ind hc ha D hf (i + 1) (by omega)
  have hcl := hc.lt (i := i) hi
  have hix := ixOf_cd hc ha (i := i) hi
  have hbit := plf_bit (l := l) (a := f) n i
  rw [decide_eq_true hi, Bool.true_and] at hbit
  by_cases q : f ≤ cd l i
  · rw [decide_eq_true q] at hbit
    rw [if_pos hbit]
    have e : ones (plf l f n) (i + 1) = ones (plf l f n) i + 1 := ct_t hbit
    have a1 := (g2 (cd l i) q hcl).mp (by omega)
    have a2 : ¬ cd l i < f + ones (plf l f n) i := fun w => by have := (h2 (cd l i) q hcl).mpr w; omega
    omega
  · rw [decide_eq_false q] at hbit
    rw [if_neg (by rw [hbit]; decide)]
    have e : ones (plf l f n) (i + 1) = ones (plf l f n) i := ct_f hbit
    have a1 := (g1 (cd l i) (by omega)).mp (by omega)
    have a2 : ¬ cd l i < i - ones (plf l f n) i := fun w => by have := (h1 (cd l i) (by omega)).mpr w; omega
    omega
theorem ones_step {m : Nat} {i j : Nat} (h : j ≤ i) : j - ones m j ≤ i - ones m i := by
  induction i with
  | zero => rw [show j = 0 by omega]; exact Nat.le_refl _
  | succ i ih =>
    rcases Nat.lt_or_ge i j with q | q
    · rw [show j = i + 1 by omega]; exact Nat.le_refl _
    · have a := ih q
      have b := ct_le (fun k => m.testBit k) i
      have e : ones m (i + 1) = ones m i + (if m.testBit i then 1 else 0) := rfl
      rw [e]
      have b2 : ones m i ≤ i := b
      split <;> omega
theorem fit_no {n f : Nat} {l : List Nat} (hc : cOk n l) (ha : cAll n l) (F : ∀ i, i < n → (layL 8 (plf l f n) n).getD i 0 / 2 = cd l i) : noD l n f := by
  intro x hx hxf
  have hln := hc.1
  obtain ⟨i1, i2⟩ := ixOf_at ha (x := x) (by omega)
  obtain ⟨j1, j2⟩ := ixOf_at ha (x := x + 1) hx
  obtain ⟨i, hi⟩ : ∃ i, i = ixOf l x := ⟨_, rfl⟩
  obtain ⟨j, hj⟩ : ∃ j, j = ixOf l (x + 1) := ⟨_, rfl⟩
  rw [← hi] at i1 i2 ⊢
  rw [← hj] at j1 j2 ⊢
  have i2 : cd l i = x := i2
  have j2 : cd l j = x + 1 := j2
  rcases Nat.lt_or_ge i j with w | w
  · exact w
  · exfalso
    have fi := F i (by omega)
    have fj := F j (by omega)
    rw [show layL 8 (plf l f n) n = rif (plf l f n) n n from rfl, rif_at n (Nat.le_refl _) _ (by omega)] at fi fj
    have bi := plf_bit (l := l) (a := f) n i
    have bj := plf_bit (l := l) (a := f) n j
    rw [decide_eq_true (show i < n by omega), Bool.true_and, i2] at bi
    rw [decide_eq_true (show j < n by omega), Bool.true_and, j2] at bj
    by_cases q : f ≤ x
    · rw [if_pos (by rw [bi]; exact decide_eq_true q), i2] at fi
      rw [if_pos (by rw [bj]; exact decide_eq_true (by omega)), j2] at fj
      have := ones_mono (m := plf l f n) (k := j) (n := i) w
      omega
    · rw [if_neg (by rw [bi, decide_eq_false q]; decide), i2] at fi
      rw [if_neg (by rw [bj, decide_eq_false (by omega)]; decide), j2] at fj
      have := ones_step (m := plf l f n) w
      omega
theorem rfF_skip {l : List Nat} {k : Nat} : ∀ j, k ≤ j → (∀ t, k ≤ t → t < j → ¬ fits8 l (plf l t l.length)) → rfF l j = rfF l k := by
  intro j
  induction j with
  | zero => intro h _; rw [show k = 0 by omega]
  | succ j ih =>
    intro h hn
    rcases Nat.lt_or_ge j k with q | q
    · rw [show k = j + 1 by omega]
    · show (if fits8 l (plf l j l.length) then nI (plf l j l.length) else rfF l j) = rfF l k
      rw [if_neg (hn j q (by omega))]
      exact ih q (fun t h1 h2 => hn t h1 (by omega))
theorem ct_two_ex {p : Nat → Bool} {n : Nat} (h : 2 ≤ ct p n) : ∃ i j, i < j ∧ j < n ∧ p i = true ∧ p j = true := by
  induction n with
  | zero => exact absurd h (by show ¬ 2 ≤ 0; decide)
  | succ n ih =>
    cases hb : p n with
    | false =>
      rw [ct_f hb] at h
      obtain ⟨i, j, h1, h2, h3, h4⟩ := ih h
      exact ⟨i, j, h1, by omega, h3, h4⟩
    | true =>
      rw [ct_t hb] at h
      obtain ⟨i, h1, h2⟩ := ct_pos (p := p) (n := n) (by omega)
      exact ⟨i, n, h1, by omega, h2, hb⟩
theorem rif_same {l : List Nat} (hc : cOk l.length l) (ha : cAll l.length l) (h2 : 2 ≤ l.length) : rifV l = rifM l l.length := by
  obtain ⟨n, hn⟩ : ∃ n, n = l.length := ⟨_, rfl⟩
  have hr : runs l n = 1 + ct (fun i => decide (ixOf l (i + 1) < ixOf l i)) (n - 1) := rfl
  have hne : ∀ x, x + 1 < n → ixOf l x ≠ ixOf l (x + 1) := fun x hx w => by
    have a := (ixOf_at ha (x := x) (by omega)).2
    have b := (ixOf_at ha (x := x + 1) (by omega)).2
    rw [w, b] at a
    omega
  unfold rifV rifM
  rw [← hn] at hc ha h2 ⊢
  by_cases q2 : 2 < runs l n
  · rw [if_pos q2]
    obtain ⟨i, j, hij, hj, p1, p2⟩ := ct_two_ex (p := fun i => decide (ixOf l (i + 1) < ixOf l i)) (n := n - 1) (by omega)
    have p1 := of_decide_eq_true p1
    have p2 := of_decide_eq_true p2
    refine (rfF_skip (k := 0) (n + 1) (Nat.zero_le _) (fun t _ ht hfit => ?_)).trans rfl
    have hfit2 : ∀ i, i < n → (layL 8 (plf l t n) n).getD i 0 / 2 = cd l i := fun i hi => by have := hfit i (by omega); rw [← hn] at this; exact this
    have D := fit_no hc ha hfit2
    by_cases w : i + 1 = t
    · have := D j (by omega) (by omega); omega
    · have := D i (by omega) w; omega
  · rw [if_neg q2]
    by_cases q1 : runs l n = 1
    · rw [if_pos q1]
      have D : noD l n n := fun x hx _ => by
        have h0 := hne x hx
        rcases Nat.lt_or_ge (ixOf l x) (ixOf l (x + 1)) with w | w
        · exact w
        · have := ct_ge (p := fun i => decide (ixOf l (i + 1) < ixOf l i)) (n := n - 1) (k := x) (by omega) (decide_eq_true (by omega))
          omega
      have F := fit_yes hc ha D (Nat.le_refl _)
      have e0 : plf l n n = 0 := by
        apply Nat.eq_of_testBit_eq
        intro i
        rw [plf_bit, Nat.zero_testBit]
        by_cases w : i < n
        · have := hc.lt w
          rw [decide_eq_true w, decide_eq_false (show ¬ n ≤ cd l i by unfold cd; omega)]; rfl
        · rw [decide_eq_false w]; rfl
      show (if fits8 l (plf l n l.length) then nI (plf l n l.length) else rfF l n) = 0
      have F2 : fits8 l (plf l n l.length) := fun i hi => by have := F i (by omega); rw [hn] at this; rw [hn]; exact this
      rw [if_pos F2, ← hn, e0]
      rfl
    · rw [if_neg q1]
      have hc1 : 0 < ct (fun i => decide (ixOf l (i + 1) < ixOf l i)) (n - 1) := by omega
      obtain ⟨d, hd, hdt⟩ := ct_pos hc1
      have hdt := of_decide_eq_true hdt
      have huq : ∀ e, e < n - 1 → ixOf l (e + 1) < ixOf l e → e = d := fun e he hw => by
        rcases Nat.lt_trichotomy e d with w | w | w
        · have := ct_two (p := fun i => decide (ixOf l (i + 1) < ixOf l i)) w hd (decide_eq_true hw) (decide_eq_true hdt); omega
        · exact w
        · have := ct_two (p := fun i => decide (ixOf l (i + 1) < ixOf l i)) w he (decide_eq_true hdt) (decide_eq_true hw); omega
      have hb : bgn l n = d + 1 := by
        have e : ff (fun i => decide (ixOf l (i + 1) < ixOf l i)) (n - 1) = d := ff_eq (by omega) (fun j hj => decide_eq_false (fun w => by have := huq j (by omega) w; omega)) (fun _ => decide_eq_true hdt)
        unfold bgn; omega
      have D : noD l n (d + 1) := fun x hx hxd => by
        have h0 := hne x hx
        rcases Nat.lt_or_ge (ixOf l x) (ixOf l (x + 1)) with w | w
        · exact w
        · have := huq x (by omega) (by omega); omega
      have F := fit_yes hc ha D (by omega)
      rw [hb, rfF_skip (k := d + 1 + 1) (n + 1) (by omega) (fun t h1 ht hfit => by
        have hfit2 : ∀ i, i < n → (layL 8 (plf l t n) n).getD i 0 / 2 = cd l i := fun i hi => by have := hfit i (by omega); rw [← hn] at this; exact this
        have D2 := fit_no hc ha hfit2
        have := D2 d (by omega) (by omega)
        omega)]
      show (if fits8 l (plf l (d + 1) l.length) then nI (plf l (d + 1) l.length) else rfF l (d + 1)) = _
      have F2 : fits8 l (plf l (d + 1) l.length) := fun i hi => by have := F i (by omega); rw [hn] at this; exact this
      rw [if_pos F2, ← hn]
