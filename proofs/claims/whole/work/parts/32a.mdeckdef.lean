/-! ===== the model's Deck: what its own questions read ===== -/
/-- a Deck at d, its cards' array at a, its faces' array at b, its lists at d + 1, d + 2: the codes l, sc shuffles -/
def CardsAt (h : aH) (d a b : Nat) (l : List Nat) (sc : Nat) : Prop :=
  ∃ f g : Nat → Int32, h d = some (.inr (6, [.ref a, .ref b, .ref (d + 1), .ref (d + 2), .int (nI sc)])) ∧ h a = some (.inl (0, l.length, .inl f)) ∧ h b = some (.inl (1, l.length, .inl g)) ∧ ∀ i, i < l.length → f i = nI (l.getD i 0 / 2) ∧ g i = bI (decide (l.getD i 0 % 2 = 1))
