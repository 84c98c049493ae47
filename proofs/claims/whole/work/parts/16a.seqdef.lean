/-! ===== the class's Sequence ===== -/
abbrev aSt : Type := List (Nat × Nat)
/-- a Sequence at q, its arrays behind it, its steps st -/
def SeqAt (h : aH) (q : Nat) (st : aSt) : Prop :=
  ∃ f g : Nat → Int32, h q = some (.inr (4, [.ref (q + 1), .ref (q + 2), .int (nI st.length)])) ∧ h (q + 1) = some (.inl (0, 8, .inl f)) ∧ h (q + 2) = some (.inl (0, 8, .inl g)) ∧ st.length ≤ 8 ∧ ∀ i, i < st.length → f i = nI (st.getD i (0, 0)).1 ∧ g i = nI (st.getD i (0, 0)).2
theorem SeqAt.keep {h h1 : aH} {q : Nat} {st : aSt} (S : SeqAt h q st) (o : ∀ a, q ≤ a → a < q + 3 → h1 a = h a) : SeqAt h1 q st := by
  obtain ⟨f, g, e1, e2, e3, e4, e5⟩ := S
  exact ⟨f, g, (o _ (by omega) (by omega)).trans e1, (o _ (by omega) (by omega)).trans e2, (o _ (by omega) (by omega)).trans e3, e4, e5⟩
def idL (n : Nat) : List Nat := (List.range n).map (fun i => 2 * i)
theorem idL_len {n : Nat} : (idL n).length = n := by simp [idL]
theorem idL_at {n i : Nat} (h : i < n) : (idL n).getD i 0 = 2 * i := by
  unfold idL
  rw [gD_map (by simpa using h)]
  simp [List.getD, h]
theorem idL_cOk {n : Nat} : cOk n (idL n) := ⟨idL_len, fun i hi => by rw [idL_len] at hi; rw [idL_at hi]; omega⟩
/-- what the steps make of the row l of n; none where a step is no shuffle for n -/
def seqF (n : Nat) : List Nat → aSt → Option (List Nat)
  | l, [] => some l
  | l, x :: t => if isO (x.1 : Int) (x.2 : Int) n then seqF n (fol l (layL x.1 x.2 n)) t else none
def seqL (st : aSt) (n : Nat) : Option (List Nat) := seqF n (idL n) st
theorem seqF_cOk {n : Nat} {st : aSt} : ∀ {l z : List Nat}, cOk n l → seqF n l st = some z → cOk n z := by
  induction st with
  | nil => intro l z h e; simp only [seqF, Option.some.injEq] at e; rw [← e]; exact h
  | cons x t ih =>
    intro l z h e
    unfold seqF at e
    by_cases c : isO (x.1 : Int) (x.2 : Int) n = true
    · rw [if_pos c] at e; exact ih (fol_cOk h (lay_cOk c)) e
    · rw [if_neg c] at e; exact absurd e (by simp)
theorem seqL_cOk {n : Nat} {st : aSt} {z : List Nat} (e : seqL st n = some z) : cOk n z := seqF_cOk idL_cOk e
theorem drop_get {st : aSt} {i : Nat} (h : i < st.length) : st.drop i = st.getD i (0, 0) :: st.drop (i + 1) := by
  rw [List.drop_eq_getElem_cons h]; simp [List.getD, h]
/-- the steps told, as the place keeps them -/
def stOk (st : aSt) : Prop := st.length ≤ 8 ∧ ∀ i, i < st.length → (st.getD i (0, 0)).1 ≤ 9 ∧ (st.getD i (0, 0)).2 < 2 ^ 31
