/-! ===== the model's Way: the same codes ===== -/
def WayAt (h : aH) (w : Nat) (l : List Nat) : Prop :=
  ∃ f g : Nat → Int32, h w = some (.inr (7, [.ref (w + 1), .ref (w + 2)])) ∧ h (w + 1) = some (.inl (0, l.length, .inl f)) ∧ h (w + 2) = some (.inl (1, l.length, .inl g)) ∧ ∀ i, i < l.length → f i = nI (l.getD i 0 / 2) ∧ g i = bI (decide (l.getD i 0 % 2 = 1))
theorem WayAt.keep {h h1 : aH} {w : Nat} {l : List Nat} (W : WayAt h w l) (o : ∀ a, w ≤ a → a < w + 3 → h1 a = h a) : WayAt h1 w l := by
  obtain ⟨f, g, e1, e2, e3, e4⟩ := W
  exact ⟨f, g, (o _ (by omega) (by omega)).trans e1, (o _ (by omega) (by omega)).trans e2, (o _ (by omega) (by omega)).trans e3, e4⟩
abbrev stillL (l : List Nat) : Prop := ∀ i, i < l.length → l.getD i 0 = 2 * i
theorem fol_h {l s : List Nat} {i : Nat} (h : i < s.length) : (fol l s).getD i 0 / 2 = l.getD (s.getD i 0 / 2) 0 / 2 := by rw [fol_at h, xor1_half _ _ (by omega)]
theorem dec_xor {P Q R : Prop} [Decidable P] [Decidable Q] [Decidable R] (h : P ↔ ¬ (Q ↔ R)) : decide P = (decide Q != decide R) := by
  by_cases q : Q <;> by_cases r : R <;> simp_all
theorem fol_u {l s : List Nat} {i : Nat} (h : i < s.length) : decide ((fol l s).getD i 0 % 2 = 1) = (decide (l.getD (s.getD i 0 / 2) 0 % 2 = 1) != decide (s.getD i 0 % 2 = 1)) := by
  rw [fol_at h]
  have e := Nat.xor_mod_two_eq_one (a := l.getD (s.getD i 0 / 2) 0) (b := s.getD i 0 % 2)
  have e2 : s.getD i 0 % 2 % 2 = s.getD i 0 % 2 := by omega
  rw [e2] at e
  exact dec_xor e
