/-! ===== the model's deck, with what it was ===== -/
def KAt (h : aH) (x : Nat) (l : List Nat) : Prop := ∃ f : Nat → Int32, h x = some (.inl (0, l.length, .inl f)) ∧ ∀ i, i < l.length → f i = nI (l.getD i 0 / 2)
def UAt (h : aH) (x : Nat) (l : List Nat) : Prop := ∃ g : Nat → Int32, h x = some (.inl (1, l.length, .inl g)) ∧ ∀ i, i < l.length → g i = bI (decide (l.getD i 0 % 2 = 1))
theorem KAt.keep {h h1 : aH} {x : Nat} {l : List Nat} (K : KAt h x l) (o : h1 x = h x) : KAt h1 x l := by
  obtain ⟨f, e1, e2⟩ := K
  exact ⟨f, o.trans e1, e2⟩
theorem UAt.keep {h h1 : aH} {x : Nat} {l : List Nat} (K : UAt h x l) (o : h1 x = h x) : UAt h1 x l := by
  obtain ⟨f, e1, e2⟩ := K
  exact ⟨f, o.trans e1, e2⟩
theorem CardsAt.of {h : aH} {d a b sc : Nat} {l : List Nat} (e : h d = some (.inr (6, [.ref a, .ref b, .ref (d + 1), .ref (d + 2), .int (nI sc)]))) (A : KAt h a l) (B : UAt h b l) : CardsAt h d a b l sc := by
  obtain ⟨f, a1, a2⟩ := A
  obtain ⟨g, b1, b2⟩ := B
  exact ⟨f, g, e, a1, b1, fun i hi => ⟨a2 i hi, b2 i hi⟩⟩
theorem CardsAt.k {h : aH} {d a b sc : Nat} {l : List Nat} (C : CardsAt h d a b l sc) : KAt h a l := by
  obtain ⟨f, g, e1, e2, e3, e4⟩ := C
  exact ⟨f, e2, fun i hi => (e4 i hi).1⟩
theorem CardsAt.u {h : aH} {d a b sc : Nat} {l : List Nat} (C : CardsAt h d a b l sc) : UAt h b l := by
  obtain ⟨f, g, e1, e2, e3, e4⟩ := C
  exact ⟨g, e3, fun i hi => (e4 i hi).2⟩
theorem CardsAt.o {h : aH} {d a b sc : Nat} {l : List Nat} (C : CardsAt h d a b l sc) : h d = some (.inr (6, [.ref a, .ref b, .ref (d + 1), .ref (d + 2), .int (nI sc)])) := by
  obtain ⟨f, g, e1, -⟩ := C
  exact e1
theorem KAt.s {h : aH} {x : Nat} {l : List Nat} (K : KAt h x l) : aStor h x := by
  obtain ⟨f, e1, -⟩ := K
  exact Or.inr ⟨0, _, _, Or.inl rfl, e1⟩
theorem UAt.s {h : aH} {x : Nat} {l : List Nat} (K : UAt h x l) : aStor h x := by
  obtain ⟨f, e1, -⟩ := K
  exact Or.inr ⟨1, _, _, Or.inr rfl, e1⟩
/-- the rows that a deck had, as its two lists hold them, the oldest first -/
def PaAt (own : Nat → Nat) (h : aH) (as bs : List Nat) (ps : List (List Nat)) : Prop :=
  as.length = ps.length ∧ bs.length = ps.length ∧ ∀ j, j < ps.length → own (as.getD j 0) = 30 ∧ own (bs.getD j 0) = 30 ∧ KAt h (as.getD j 0) (ps.getD (ps.length - 1 - j) []) ∧ UAt h (bs.getD j 0) (ps.getD (ps.length - 1 - j) [])
/-- the model's deck number i, at dk -/
def DkAt (G : aG) (own : Nat → Nat) (h : aH) (i dk : Nat) (d : aDk) : Prop :=
  own dk = 4 * i + 1 ∧ d.2.1.length ≤ d.2.2 ∧ d.2.1.length ≤ 40 ∧ ∃ (a b : Nat) (as bs : List Nat), CardsAt h dk a b d.1 d.2.2 ∧ own a = 30 ∧ own b = 30 ∧ LsAt G own h (4 * i + 2) (dk + 1) as ∧ LsAt G own h (4 * i + 3) (dk + 2) bs ∧ PaAt own h as bs d.2.1
theorem PaAt.keep {own own1 : Nat → Nat} {h h1 : aH} {as bs : List Nat} {ps : List (List Nat)} (P : PaAt own h as bs ps) (o : ∀ b, own b = 30 → h1 b = h b ∧ own1 b = own b) : PaAt own1 h1 as bs ps := by
  obtain ⟨p1, p2, p3⟩ := P
  refine ⟨p1, p2, fun j hj => ?_⟩
  obtain ⟨q1, q2, q3, q4⟩ := p3 j hj
  exact ⟨(o _ q1).2.trans q1, (o _ q2).2.trans q2, q3.keep (o _ q1).1, q4.keep (o _ q2).1⟩
theorem DkAt.keep {G : aG} {own own1 : Nat → Nat} {h h1 : aH} {i dk : Nat} {d : aDk} (D : DkAt G own h i dk d) (o : ∀ b, (own b = 30 ∨ (4 * i + 1 ≤ own b ∧ own b ≤ 4 * i + 3)) → h1 b = h b ∧ own1 b = own b) : DkAt G own1 h1 i dk d := by
  obtain ⟨e1, e2, e2b, a, b, as, bs, e3, e4, e5, e6, e7, e8⟩ := D
  exact ⟨(o dk (Or.inr (by omega))).2.trans e1, e2, e2b, a, b, as, bs, e3.keep (o dk (Or.inr (by omega))).1 (o a (Or.inl e4)).1 (o b (Or.inl e5)).1, (o a (Or.inl e4)).2.trans e4, (o b (Or.inl e5)).2.trans e5, e6.keep (fun q hq => o q (Or.inr (by omega))), e7.keep (fun q hq => o q (Or.inr (by omega))), e8.keep (fun q hq => o q (Or.inl hq))⟩
theorem Fr.at {own own1 : Nat → Nat} {h h1 : aH} {nx n1 : Nat} {K : Nat → Prop} (F : Fr own own1 h h1 nx n1 K) (ho : ∀ b, nx ≤ b → own b = 0) {b : Nat} (h0 : own b ≠ 0) (hK : ¬ K (own b)) : h1 b = h b ∧ own1 b = own b := by
  have hb : b < nx := by rcases Nat.lt_or_ge b nx with z | z; exact z; exact absurd (ho b z) h0
  exact ⟨F.2.2.2.2 b hb hK, F.2.1 b hb⟩
theorem own_lt {own : Nat → Nat} {nx b : Nat} (ho : ∀ b, nx ≤ b → own b = 0) (h0 : own b ≠ 0) : b < nx := by rcases Nat.lt_or_ge b nx with z | z; exact z; exact absurd (ho b z) h0
theorem tkD {ps : List (List Nat)} {n j : Nat} (h : j < n) : (ps.take n).getD j [] = ps.getD j [] := by simp [List.getD, List.getElem?_take, h]
theorem gD_lA {l : List Nat} {c i : Nat} (h : i < l.length) : (l ++ [c]).getD i 0 = l.getD i 0 := gD_l h
/-- the past with one row more -/
theorem PaAt.add {own : Nat → Nat} {h : aH} {as bs : List Nat} {ps : List (List Nat)} {a b : Nat} {l : List Nat} (P : PaAt own h as bs ps) (ha : own a = 30) (hb : own b = 30) (hK : KAt h a l) (hU : UAt h b l) : PaAt own h (as ++ [a]) (bs ++ [b]) (l :: ps) := by
  obtain ⟨p1, p2, p3⟩ := P
  refine ⟨by simp [p1], by simp [p2], fun j hj => ?_⟩
  simp only [List.length_cons] at hj ⊢
  by_cases z : j = ps.length
  · subst z
    have e1 : (as ++ [a]).getD ps.length 0 = a := by rw [← p1]; exact gD_r
    have e2 : (bs ++ [b]).getD ps.length 0 = b := by rw [← p2]; exact gD_r
    rw [e1, e2, show ps.length + 1 - 1 - ps.length = 0 by omega]
    exact ⟨ha, hb, hK, hU⟩
  · have hj2 : j < ps.length := by omega
    rw [gD_l (by omega), gD_l (by omega), show ps.length + 1 - 1 - j = (ps.length - 1 - j) + 1 by omega]
    exact p3 j hj2
/-- the past without its oldest row, where it has 40 -/
theorem PaAt.drop {own : Nat → Nat} {h : aH} {as bs : List Nat} {ps : List (List Nat)} (P : PaAt own h as bs ps) (h40 : ps.length = 40) : PaAt own h (as.eraseIdx 0) (bs.eraseIdx 0) (ps.take 39) := by
  obtain ⟨p1, p2, p3⟩ := P
  refine ⟨by rw [eIl (by omega), List.length_take]; omega, by rw [eIl (by omega), List.length_take]; omega, fun j hj => ?_⟩
  rw [List.length_take] at hj ⊢
  rw [eIx, eIx, if_neg (Nat.not_lt_zero _), if_neg (Nat.not_lt_zero _), tkD (by omega), show min 39 ps.length - 1 - j = ps.length - 1 - (j + 1) by omega]
  exact p3 (j + 1) (by omega)
/-- the past without its latest row -/
theorem PaAt.pop {own : Nat → Nat} {h : aH} {as bs : List Nat} {l : List Nat} {ps : List (List Nat)} (P : PaAt own h as bs (l :: ps)) : PaAt own h (as.eraseIdx ps.length) (bs.eraseIdx ps.length) ps := by
  obtain ⟨p1, p2, p3⟩ := P
  simp only [List.length_cons] at p1 p2 p3
  refine ⟨by rw [eIl (by omega)]; omega, by rw [eIl (by omega)]; omega, fun j hj => ?_⟩
  rw [eIx, eIx, if_pos hj, if_pos hj]
  have := p3 j (by omega)
  rw [show ps.length + 1 - 1 - j = (ps.length - 1 - j) + 1 by omega] at this
  exact this
