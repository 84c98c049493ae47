/-! ===== the hall: its state, and how it lies on the heap ===== -/
abbrev aDk : Type := List Nat × List (List Nat) × Nat
abbrev aSg : Type := List aDk × List aSt × Nat
abbrev dk0 : aDk := ([], [], 0)
def fDk (q : Nat) : Nat → Option Nat := fun i => if i < 4 then some (q + 12 + 45 * i) else none
def fSq (q : Nat) : Nat → Option Nat := fun i => if i < 4 then some (q + 192 + 3 * i) else none
theorem fDk_at {q i : Nat} (h : i < 4) : va_rf (fDk q i) = .ref (q + 12 + 45 * i) := by unfold fDk; rw [if_pos h]; rfl
theorem fSq_at {q i : Nat} (h : i < 4) : va_rf (fSq q i) = .ref (q + 192 + 3 * i) := by unfold fSq; rw [if_pos h]; rfl
/-- the hall at q with the state σ: 204 cells -/
def HallAt (h : aH) (q : Nat) (σ : aSg) : Prop :=
  h q = some (.inr (5, [.ref (q + 1), .ref (q + 2), .int (nI σ.1.length), .int (nI σ.2.1.length), .int (nI σ.2.2), .ref (q + 3), .ref (q + 6), .ref (q + 9)])) ∧
  h (q + 1) = some (.inl (5, 4, .inr (.inr (.inr (.inr (fDk q)))))) ∧ h (q + 2) = some (.inl (6, 4, .inr (.inr (.inr (.inr (fSq q)))))) ∧
  (∃ z, RowAt h (q + 3) z) ∧ (∃ z, RowAt h (q + 6) z) ∧ (∃ z, RowAt h (q + 9) z) ∧
  (∀ i, i < 4 → DeckAt h (q + 12 + 45 * i) (σ.1.getD i dk0).1 (σ.1.getD i dk0).2.1 (σ.1.getD i dk0).2.2) ∧ ∀ j, j < 4 → SeqAt h (q + 192 + 3 * j) (σ.2.1.getD j [])
/-- a deck as the place keeps it, c calls on -/
def dkOk (c : Nat) (d : aDk) : Prop := (2 ≤ d.1.length ∧ d.1.length ≤ 16) ∧ cOk d.1.length d.1 ∧ cAll d.1.length d.1 ∧ (∀ m ∈ d.2.1, cOk d.1.length m ∧ cAll d.1.length m) ∧ d.2.1.length ≤ 40 ∧ d.2.2 ≤ c
def sgOk (c : Nat) (σ : aSg) : Prop := σ.1.length ≤ 4 ∧ σ.2.1.length ≤ 4 ∧ σ.2.2 ≤ c ∧ (∀ i, i < σ.1.length → dkOk c (σ.1.getD i dk0)) ∧ ∀ j, j < σ.2.1.length → stOk (σ.2.1.getD j [])
theorem HallAt.keep {h h1 : aH} {q : Nat} {σ : aSg} (H : HallAt h q σ) (o : ∀ a, q ≤ a → a < q + 204 → h1 a = h a) : HallAt h1 q σ := by
  obtain ⟨e1, e2, e3, ⟨z1, e4⟩, ⟨z2, e5⟩, ⟨z3, e6⟩, e7, e8⟩ := H
  exact ⟨(o _ (by omega) (by omega)).trans e1, (o _ (by omega) (by omega)).trans e2, (o _ (by omega) (by omega)).trans e3, ⟨z1, e4.keep (fun a g1 g2 => o a (by omega) (by omega))⟩, ⟨z2, e5.keep (fun a g1 g2 => o a (by omega) (by omega))⟩, ⟨z3, e6.keep (fun a g1 g2 => o a (by omega) (by omega))⟩,
    fun i hi => (e7 i hi).keep (fun a g1 g2 => o a (by omega) (by omega)), fun j hj => (e8 j hj).keep (fun a g1 g2 => o a (by omega) (by omega))⟩
/-- only the rows for reckoning have changed -/
theorem HallAt.rows {h h1 : aH} {q : Nat} {σ : aSg} (H : HallAt h q σ) (o : ∀ a, (a < q + 3 ∨ q + 12 ≤ a) → h1 a = h a) (r1 : ∃ z, RowAt h1 (q + 3) z) (r2 : ∃ z, RowAt h1 (q + 6) z) (r3 : ∃ z, RowAt h1 (q + 9) z) : HallAt h1 q σ := by
  obtain ⟨e1, e2, e3, -, -, -, e7, e8⟩ := H
  exact ⟨(o _ (by omega)).trans e1, (o _ (by omega)).trans e2, (o _ (by omega)).trans e3, r1, r2, r3, fun i hi => (e7 i hi).keep (fun a g1 g2 => o a (by omega)), fun j hj => (e8 j hj).keep (fun a g1 g2 => o a (by omega))⟩
/-- a deck and the rows for reckoning have changed -/
theorem HallAt.deck {h h1 : aH} {q i : Nat} {σ : aSg} {d : aDk} (H : HallAt h q σ) (hi : i < σ.1.length) (h4 : σ.1.length ≤ 4) (o : ∀ a, (a < q + 3 ∨ q + 12 ≤ a) → (a < q + 12 + 45 * i ∨ q + 12 + 45 * i + 45 ≤ a) → h1 a = h a) (r1 : ∃ z, RowAt h1 (q + 3) z) (r2 : ∃ z, RowAt h1 (q + 6) z) (r3 : ∃ z, RowAt h1 (q + 9) z) (D : DeckAt h1 (q + 12 + 45 * i) d.1 d.2.1 d.2.2) : HallAt h1 q (σ.1.set i d, σ.2) := by
  obtain ⟨e1, e2, e3, -, -, -, e7, e8⟩ := H
  refine ⟨by simp only [List.length_set]; exact (o _ (by omega) (by omega)).trans e1, (o _ (by omega) (by omega)).trans e2, (o _ (by omega) (by omega)).trans e3, r1, r2, r3, fun j hj => ?_, fun j hj => (e8 j hj).keep (fun a g1 g2 => o a (by omega) (by omega))⟩
  by_cases z : j = i
  · subst z
    have e9 : (σ.1.set j d).getD j dk0 = d := by simp [List.getD, hi]
    rw [e9]; exact D
  · have e9 : (σ.1.set i d).getD j dk0 = σ.1.getD j dk0 := by simp [List.getD, List.getElem?_set_ne (Ne.symm z)]
    rw [e9]; exact (e7 j hj).keep (fun a g1 g2 => o a (by omega) (by rcases Nat.lt_or_gt_of_ne z with y | y <;> omega))
/-- how a call of the hall ends: the answer and the state r, nothing else on the heap changed -/
def hPo (h : aH) (q nx : Nat) (r : (Option Value ⊕ String) × aSg) : aPost := fun o h1 n1 => nx ≤ n1 ∧ aOff h h1 q 204 ∧ o = r.1 ∧ HallAt h1 q r.2
def inD (σ : aSg) (x : Int32) : Bool := decide (0 ≤ x.toInt ∧ x.toInt < σ.1.length)
def inS (σ : aSg) (x : Int32) : Bool := decide (0 ≤ x.toInt ∧ x.toInt < σ.2.1.length)
theorem in_of {k : Nat} {x : Int32} (h : decide (0 ≤ x.toInt ∧ x.toInt < k) = true) (hk : k ≤ 4096) : ∃ i, i < k ∧ x = nI i := by
  have h1 := of_decide_eq_true h
  obtain ⟨i, hi, rfl⟩ := nI_of (x := x) (by rw [Int32.lt_iff_toInt_lt]; have e0 : (0 : Int32).toInt = 0 := (by decide); omega)
  have e := nI_toInt hi
  exact ⟨i, by omega, rfl⟩
theorem hall_up {i b k : Nat} : va_up (fun j => if j < i then some (b + k * j) else none) i (some (b + k * i)) = (fun j => if j < i + 1 then some (b + k * j) else none) := by
  funext j
  unfold va_up
  by_cases z : j = i
  · subst z; simp
  · by_cases y : j < i
    · simp [z, y, show j < i + 1 by omega]
    · simp [z, y, show ¬ j < i + 1 by omega]
