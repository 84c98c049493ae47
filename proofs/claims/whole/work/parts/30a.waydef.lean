/-! ===== the model's Way: the same codes ===== -/
def WayAt (h : aH) (w : Nat) (l : List Nat) : Prop :=
  ∃ f g : Nat → Int32, h w = some (.inr (7, [.ref (w + 1), .ref (w + 2)])) ∧ h (w + 1) = some (.inl (0, l.length, .inl f)) ∧ h (w + 2) = some (.inl (1, l.length, .inl g)) ∧ ∀ i, i < l.length → f i = nI (l.getD i 0 / 2) ∧ g i = bI (decide (l.getD i 0 % 2 = 1))
theorem WayAt.keep {h h1 : aH} {w : Nat} {l : List Nat} (W : WayAt h w l) (o : ∀ a, w ≤ a → a < w + 3 → h1 a = h a) : WayAt h1 w l := by
  obtain ⟨f, g, e1, e2, e3, e4⟩ := W
  exact ⟨f, g, (o _ (by omega) (by omega)).trans e1, (o _ (by omega) (by omega)).trans e2, (o _ (by omega) (by omega)).trans e3, e4⟩
abbrev stillL (l : List Nat) : Prop := ∀ i, i < l.length → l.getD i 0 = 2 * i
