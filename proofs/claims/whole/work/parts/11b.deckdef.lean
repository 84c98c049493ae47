/-! ===== the class's Deck ===== -/
def f40 (d : Nat) : Nat → Option Nat := fun i => if i < 40 then some (d + 5 + i) else none
theorem f40_at {d i : Nat} (h : i < 40) : va_rf (f40 d i) = .ref (d + 5 + i) := by unfold f40; rw [if_pos h]; rfl
/-- a Deck at d, its Row, its kept rows behind it: the codes l, ahead of its latest shuffles ps (the latest first), sc shuffles -/
def DeckAt (h : aH) (d : Nat) (l : List Nat) (ps : List (List Nat)) (sc : Nat) : Prop :=
  h d = some (.inr (2, [.ref (d + 1), .ref (d + 4), .int (nI ps.length), .int (nI sc)])) ∧ RowAt h (d + 1) l ∧ h (d + 4) = some (.inl (7, 40, .inr (.inr (.inr (.inr (f40 d)))))) ∧
  ps.length ≤ 40 ∧ ps.length ≤ sc ∧ (∀ i, i < 40 → ∃ m, KeptAt h (d + 5 + i) m) ∧ ∀ j, j < ps.length → KeptAt h (d + 5 + (sc - 1 - j) % 40) (ps.getD j [])
theorem DeckAt.keep {h h1 : aH} {d : Nat} {l : List Nat} {ps : List (List Nat)} {sc : Nat} (D : DeckAt h d l ps sc) (o : ∀ a, d ≤ a → a < d + 45 → h1 a = h a) : DeckAt h1 d l ps sc := by
  obtain ⟨e1, e2, e3, e4, e5, e6, e7⟩ := D
  refine ⟨(o _ (by omega) (by omega)).trans e1, e2.keep (fun a h1 h2 => o a (by omega) (by omega)), (o _ (by omega) (by omega)).trans e3, e4, e5, fun i hi => ?_, fun j hj => (e7 j hj).keep (o _ (by omega) (by omega))⟩
  obtain ⟨m, hm⟩ := e6 i hi
  exact ⟨m, hm.keep (o _ (by omega) (by omega))⟩
theorem KeptAt.len {h : aH} {a : Nat} {l : List Nat} (K : KeptAt h a l) : ∃ f : Nat → Int32, h a = some (.inl (0, 16, .inl f)) := by
  obtain ⟨f, e, -⟩ := K
  exact ⟨f, e⟩
