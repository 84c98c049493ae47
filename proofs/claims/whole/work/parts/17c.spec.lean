/-! ===== what each call of the hall answers, and the state behind it ===== -/
abbrev aRs : Type := (Option Value ⊕ String) × aSg
abbrev rE (E : String) (σ : aSg) : aRs := (.inr E, σ)
abbrev rI (x : Int32) (σ : aSg) : aRs := (.inl (some (.int x)), σ)
abbrev rL (x : Int64) (σ : aSg) : aRs := (.inl (some (.long x)), σ)
abbrev rD (x : UInt64) (σ : aSg) : aRs := (.inl (some (.double x)), σ)
theorem hPo_of {h h1 : aH} {q nx n1 : Nat} {r : aRs} {o : Option Value ⊕ String} {σ1 : aSg} (hs : r = (o, σ1)) (hn : nx ≤ n1) (ho : aOff h h1 q 204) (H : HallAt h1 q σ1) : hPo h q nx r o h1 n1 := by
  subst hs
  exact ⟨hn, ho, rfl, H⟩
def dkI (σ : aSg) (x : Int32) : aDk := σ.1.getD x.toInt.toNat dk0
def sqI (σ : aSg) (x : Int32) : aSt := σ.2.1.getD x.toInt.toNat []
def inP (l : List Nat) (x : Int32) : Bool := decide (0 ≤ x.toInt ∧ x.toInt < l.length)
def wIn (x : Int32) (a b : Int) : Bool := decide (a ≤ x.toInt ∧ x.toInt ≤ b)
def putD (d : aDk) (s : List Nat) (t : Nat) : aDk := (oft 20 d.1 s t, (d.1 :: d.2.1).take 40, d.2.2 + 1)
def setD (σ : aSg) (x : Int32) (d : aDk) : aSg := (σ.1.set x.toInt.toNat d, σ.2)
def topD (d : aDk) : Int32 := nI (d.1.getD 0 0 / 2)
def sDeck (σ : aSg) (x : Int32) : aRs := if wIn x 2 16 then (if σ.1.length < 4 then rI (nI σ.1.length) (σ.1 ++ [(idL x.toInt.toNat, [], 0)], σ.2) else rE xISE σ) else rE xIAE σ
def sShuffle (σ : aSg) (x k m t : Int32) : aRs := if inD σ x then (if isO k.toInt m.toInt (dkI σ x).1.length then (if wIn t 1 1000000 then rI (topD (putD (dkI σ x) (layL k.toInt.toNat m.toInt.toNat (dkI σ x).1.length) t.toInt.toNat)) (setD σ x (putD (dkI σ x) (layL k.toInt.toNat m.toInt.toNat (dkI σ x).1.length) t.toInt.toNat)) else rE xIAE σ) else rE xIAE σ) else rE xIOB σ
def backD (d : aDk) : aDk := (d.2.1.headD [], d.2.1.tail, d.2.2 - 1)
def sUndo (σ : aSg) (x : Int32) : aRs := if inD σ x then (if (dkI σ x).2.1 = [] then rI (-1) σ else rI (topD (backD (dkI σ x))) (σ.1.set x.toInt.toNat (backD (dkI σ x)), σ.2.1, σ.2.2 + 1)) else rE xIOB σ
def turnD (d : aDk) (i : Nat) : aDk := (d.1.set i (d.1.getD i 0 ^^^ 1), d.2.1, d.2.2)
def sTurn (σ : aSg) (x p : Int32) : aRs := if inD σ x then (if inP (dkI σ x).1 p then rI (bI (decide ((turnD (dkI σ x) p.toInt.toNat).1.getD p.toInt.toNat 0 % 2 = 1))) (setD σ x (turnD (dkI σ x) p.toInt.toNat)) else rE xIOB σ) else rE xIOB σ
def sSequence (σ : aSg) : aRs := if σ.2.1.length < 4 then rI (nI σ.2.1.length) (σ.1, σ.2.1 ++ [[]], σ.2.2) else rE xISE σ
def sStep (σ : aSg) (x k m : Int32) : aRs := if inS σ x then (if wIn k 0 9 && decide (0 ≤ m.toInt) then (if (sqI σ x).length < 8 then rI (nI ((sqI σ x).length + 1)) (σ.1, σ.2.1.set x.toInt.toNat (sqI σ x ++ [(k.toInt.toNat, m.toInt.toNat)]), σ.2.2) else rE xISE σ) else rE xIAE σ) else rE xIOB σ
def sPerform (σ : aSg) (x y t : Int32) : aRs := if inD σ x then (if inS σ y then (if wIn t 1 1000000 then (match seqL (sqI σ y) (dkI σ x).1.length with | none => rE xISE σ | some s => rI (topD (putD (dkI σ x) s t.toInt.toNat)) (setD σ x (putD (dkI σ x) s t.toInt.toNat))) else rE xIAE σ) else rE xIOB σ) else rE xIOB σ
def sCard (σ : aSg) (x p : Int32) : aRs := if inD σ x then (if inP (dkI σ x).1 p then rI (nI ((dkI σ x).1.getD p.toInt.toNat 0 / 2)) σ else rE xIOB σ) else rE xIOB σ
def sFind (σ : aSg) (x p : Int32) (b : Bool) : aRs := if inD σ x then (if inP (dkI σ x).1 p then rI (nI (if b then (dkI σ x).1.getD (ixOf (dkI σ x).1 p.toInt.toNat) 0 % 2 else ixOf (dkI σ x).1 p.toInt.toNat)) σ else rE xIOB σ) else rE xIOB σ
theorem has_eq {x : Int32} {k : Nat} (hk : k < 2 ^ 31) : decide (0 ≤ x ∧ x < nI k) = decide (0 ≤ x.toInt ∧ x.toInt < k) := by
  have e := nI_toInt hk
  have e0 : (0 : Int32).toInt = 0 := (by decide)
  refine decide_eq_decide.mpr ?_
  rw [Int32.le_iff_toInt_le, Int32.lt_iff_toInt_lt, e, e0]
theorem nI_nat {i : Nat} (h : i < 2 ^ 31) : (nI i).toInt.toNat = i := by rw [nI_toInt h]; rfl
theorem inD_i {σ : aSg} {i : Nat} (h : i < σ.1.length) (h4 : σ.1.length ≤ 4) : inD σ (nI i) = true := by
  unfold inD; rw [nI_toInt (by omega)]; exact decide_eq_true ⟨by omega, by omega⟩
theorem dkI_i {σ : aSg} {i : Nat} (h : i < 4) : dkI σ (nI i) = σ.1.getD i dk0 := by unfold dkI; rw [nI_nat (by omega)]
theorem sqI_i {σ : aSg} {i : Nat} (h : i < 4) : sqI σ (nI i) = σ.2.1.getD i [] := by unfold sqI; rw [nI_nat (by omega)]
theorem DeckAt.row {h h1 : aH} {d : Nat} {l l2 : List Nat} {ps : List (List Nat)} {sc : Nat} (D : DeckAt h d l ps sc) (R : RowAt h1 (d + 1) l2) (o : ∀ a, (a < d + 1 ∨ d + 4 ≤ a) → a < d + 45 → d ≤ a → h1 a = h a) : DeckAt h1 d l2 ps sc := by
  obtain ⟨e1, e2, e3, e4, e5, e6, e7⟩ := D
  refine ⟨(o _ (by omega) (by omega) (by omega)).trans e1, R, (o _ (by omega) (by omega) (by omega)).trans e3, e4, e5, fun i hi => ?_, fun j hj => (e7 j hj).keep (o _ (by omega) (by omega) (by omega))⟩
  obtain ⟨m, hm⟩ := e6 i hi
  exact ⟨m, hm.keep (o _ (by omega) (by omega) (by omega))⟩
/-- a deck more -/
theorem HallAt.addDeck {h h1 : aH} {q : Nat} {σ : aSg} {d : aDk} (H : HallAt h q σ) (hl : σ.1.length < 4) (e : h1 q = some (.inr (5, [.ref (q + 1), .ref (q + 2), .int (nI (σ.1.length + 1)), .int (nI σ.2.1.length), .int (nI σ.2.2), .ref (q + 3), .ref (q + 6), .ref (q + 9)])))
    (o : ∀ a, a ≠ q → (a < q + 12 + 45 * σ.1.length ∨ q + 12 + 45 * σ.1.length + 45 ≤ a) → h1 a = h a) (D : DeckAt h1 (q + 12 + 45 * σ.1.length) d.1 d.2.1 d.2.2) : HallAt h1 q (σ.1 ++ [d], σ.2) := by
  obtain ⟨e1, e2, e3, ⟨z1, e4⟩, ⟨z2, e5⟩, ⟨z3, e6⟩, e7, e8⟩ := H
  refine ⟨by rw [List.length_append]; exact e, (o _ (by omega) (by omega)).trans e2, (o _ (by omega) (by omega)).trans e3, ⟨z1, e4.keep (fun a g1 g2 => o a (by omega) (by omega))⟩, ⟨z2, e5.keep (fun a g1 g2 => o a (by omega) (by omega))⟩, ⟨z3, e6.keep (fun a g1 g2 => o a (by omega) (by omega))⟩, fun j hj => ?_, fun j hj => (e8 j hj).keep (fun a g1 g2 => o a (by omega) (by omega))⟩
  by_cases z : j = σ.1.length
  · subst z
    have e9 : (σ.1 ++ [d]).getD σ.1.length dk0 = d := by simp [List.getD]
    rw [e9]; exact D
  · have e9 : (σ.1 ++ [d]).getD j dk0 = σ.1.getD j dk0 := by
      by_cases y : j < σ.1.length
      · simp [List.getD, List.getElem?_append_left y]
      · have y2 : (σ.1 ++ [d]).length ≤ j := by simp; omega
        simp [List.getD, List.getElem?_eq_none y2, List.getElem?_eq_none (show σ.1.length ≤ j by omega)]
    rw [e9]; exact (e7 j hj).keep (fun a g1 g2 => o a (by omega) (by rcases Nat.lt_or_gt_of_ne z with y | y <;> omega))
/-- a sequence more -/
theorem HallAt.addSeq {h h1 : aH} {q : Nat} {σ : aSg} (H : HallAt h q σ) (e : h1 q = some (.inr (5, [.ref (q + 1), .ref (q + 2), .int (nI σ.1.length), .int (nI (σ.2.1.length + 1)), .int (nI σ.2.2), .ref (q + 3), .ref (q + 6), .ref (q + 9)])))
    (o : ∀ a, a ≠ q → h1 a = h a) : HallAt h1 q (σ.1, σ.2.1 ++ [[]], σ.2.2) := by
  obtain ⟨e1, e2, e3, ⟨z1, e4⟩, ⟨z2, e5⟩, ⟨z3, e6⟩, e7, e8⟩ := H
  refine ⟨by simp only [List.length_append, List.length_cons, List.length_nil]; exact e, (o _ (by omega)).trans e2, (o _ (by omega)).trans e3, ⟨z1, e4.keep (fun a g1 g2 => o a (by omega))⟩, ⟨z2, e5.keep (fun a g1 g2 => o a (by omega))⟩, ⟨z3, e6.keep (fun a g1 g2 => o a (by omega))⟩, fun j hj => (e7 j hj).keep (fun a g1 g2 => o a (by omega)), fun j hj => ?_⟩
  have e9 : (σ.2.1 ++ [[]]).getD j [] = σ.2.1.getD j [] := by
    by_cases y : j < σ.2.1.length
    · simp [List.getD, List.getElem?_append_left y]
    · rw [List.getD, List.getD, List.getElem?_eq_none (show σ.2.1.length ≤ j by omega), List.getElem?_append_right (by omega)]
      cases j - σ.2.1.length <;> simp
  show SeqAt h1 _ ((σ.2.1 ++ [[]]).getD j [])
  rw [e9]; exact (e8 j hj).keep (fun a g1 g2 => o a (by omega))
/-- a step more -/
theorem HallAt.seq {h h1 : aH} {q i : Nat} {σ : aSg} {s : aSt} (H : HallAt h q σ) (hi : i < σ.2.1.length) (h4 : σ.2.1.length ≤ 4) (o : ∀ a, (a < q + 192 + 3 * i ∨ q + 192 + 3 * i + 3 ≤ a) → h1 a = h a) (S : SeqAt h1 (q + 192 + 3 * i) s) : HallAt h1 q (σ.1, σ.2.1.set i s, σ.2.2) := by
  obtain ⟨e1, e2, e3, ⟨z1, e4⟩, ⟨z2, e5⟩, ⟨z3, e6⟩, e7, e8⟩ := H
  refine ⟨by simp only [List.length_set]; exact (o _ (by omega)).trans e1, (o _ (by omega)).trans e2, (o _ (by omega)).trans e3, ⟨z1, e4.keep (fun a g1 g2 => o a (by omega))⟩, ⟨z2, e5.keep (fun a g1 g2 => o a (by omega))⟩, ⟨z3, e6.keep (fun a g1 g2 => o a (by omega))⟩, fun j hj => (e7 j hj).keep (fun a g1 g2 => o a (by omega)), fun j hj => ?_⟩
  by_cases z : j = i
  · subst z
    have e9 : (σ.2.1.set j s).getD j [] = s := by simp [List.getD, hi]
    show SeqAt h1 _ ((σ.2.1.set j s).getD j [])
    rw [e9]; exact S
  · have e9 : (σ.2.1.set i s).getD j [] = σ.2.1.getD j [] := by simp [List.getD, List.getElem?_set_ne (Ne.symm z)]
    show SeqAt h1 _ ((σ.2.1.set i s).getD j [])
    rw [e9]; exact (e8 j hj).keep (fun a g1 g2 => o a (by rcases Nat.lt_or_gt_of_ne z with y | y <;> omega))
/-- one taken back more -/
theorem HallAt.taken {h h1 : aH} {q : Nat} {σ : aSg} {t : Nat} (H : HallAt h q σ) (e : h1 q = some (.inr (5, [.ref (q + 1), .ref (q + 2), .int (nI σ.1.length), .int (nI σ.2.1.length), .int (nI t), .ref (q + 3), .ref (q + 6), .ref (q + 9)])))
    (o : ∀ a, a ≠ q → h1 a = h a) : HallAt h1 q (σ.1, σ.2.1, t) := by
  obtain ⟨e1, e2, e3, ⟨z1, e4⟩, ⟨z2, e5⟩, ⟨z3, e6⟩, e7, e8⟩ := H
  exact ⟨e, (o _ (by omega)).trans e2, (o _ (by omega)).trans e3, ⟨z1, e4.keep (fun a g1 g2 => o a (by omega))⟩, ⟨z2, e5.keep (fun a g1 g2 => o a (by omega))⟩, ⟨z3, e6.keep (fun a g1 g2 => o a (by omega))⟩, fun j hj => (e7 j hj).keep (fun a g1 g2 => o a (by omega)), fun j hj => (e8 j hj).keep (fun a g1 g2 => o a (by omega))⟩
theorem wIn_nat {x : Int32} {b : Nat} {a : Nat} (h : wIn x a b = true) (hb : b < 2 ^ 31) : ∃ i, a ≤ i ∧ i ≤ b ∧ x = nI i := by
  have h1 := of_decide_eq_true h
  obtain ⟨i, hi, rfl⟩ := nI_of (x := x) (by rw [Int32.lt_iff_toInt_lt]; have e0 : (0 : Int32).toInt = 0 := (by decide); omega)
  have e := nI_toInt hi
  exact ⟨i, by omega, by omega, rfl⟩
theorem inP_nat {l : List Nat} {x : Int32} (h : inP l x = true) (hl : l.length ≤ 16) : ∃ i, i < l.length ∧ x = nI i := in_of (x := x) (k := l.length) h (by omega)
theorem bf {b : Bool} (h : ¬ b = true) : b = false := by cases b <;> simp_all
