/-! ===== what changes the model's state ===== -/
theorem gD_setD {l : List aDk} {i j : Nat} {d : aDk} (h : i < l.length) : (l.set i d).getD j dk0 = if j = i then d else l.getD j dk0 := by
  by_cases q : j = i
  · subst q; simp [List.getD, h]
  · rw [if_neg q]; simp [List.getD, List.getElem?_set_ne (Ne.symm q)]
theorem gD_setS {l : List aSt} {i j : Nat} {d : aSt} (h : i < l.length) : (l.set i d).getD j [] = if j = i then d else l.getD j [] := by
  by_cases q : j = i
  · subst q; simp [List.getD, h]
  · rw [if_neg q]; simp [List.getD, List.getElem?_set_ne (Ne.symm q)]
theorem gD_appD {l : List aDk} {j : Nat} {d : aDk} : (l ++ [d]).getD j dk0 = if j < l.length then l.getD j dk0 else if j = l.length then d else dk0 := by
  by_cases q : j < l.length
  · rw [if_pos q]; simp [List.getD, List.getElem?_append_left q]
  · rw [if_neg q]
    by_cases q2 : j = l.length
    · rw [if_pos q2, q2]; simp [List.getD]
    · rw [if_neg q2, List.getD, List.getElem?_eq_none (by simp; omega)]; rfl
theorem gD_appS {l : List aSt} {j : Nat} {d : aSt} : (l ++ [d]).getD j [] = if j < l.length then l.getD j [] else if j = l.length then d else [] := by
  by_cases q : j < l.length
  · rw [if_pos q]; simp [List.getD, List.getElem?_append_left q]
  · rw [if_neg q]
    by_cases q2 : j = l.length
    · rw [if_pos q2, q2]; simp [List.getD]
    · rw [if_neg q2, List.getD, List.getElem?_eq_none (by simp; omega)]; rfl
/-- another number, another count of what was undone -/
theorem MAt.obj {G : aG} {own : Nat → Nat} {h h1 : aH} {nx m t : Nat} {σ : aSg} {th th1 : Int32} {sum : Int64} (h4 : σ.1.length ≤ 4) (h5 : σ.2.1.length ≤ 4) (M : MAt G own h nx m σ th) (e : h1 m = some (mObj m th1 t sum)) (o : ∀ b, b ≠ m → h1 b = h b) : MAt G own h1 nx m (σ.1, σ.2.1, t) th1 := by
  obtain ⟨e1, e2, -, ⟨ds, e4, e5, e6⟩, ss, e7, e8, e9⟩ := M
  have o2 : ∀ b, own b ≠ 22 → h1 b = h b ∧ own b = own b := fun b hb => ⟨o b (fun z => hb (by rw [z]; exact e2)), rfl⟩
  exact ⟨e1, e2, ⟨sum, e⟩, ⟨ds, e4.keep (fun b hb => o2 b (by omega)), e5, fun i hi => (e6 i hi).keep (fun b hb => o2 b (by have : i < 4 := Nat.lt_of_lt_of_le hi h4; omega))⟩, ss, e7.keep (fun b hb => o2 b (by omega)), e8, fun j hj => (e9 j hj).keep (fun b hb => o2 b (by have : j < 4 := Nat.lt_of_lt_of_le hj h5; omega))⟩
abbrev KDk (i : Nat) : Nat → Prop := fun j => 4 * i + 1 ≤ j ∧ j ≤ 4 * i + 3
/-- the deck that is asked for, and what a change of it makes -/
theorem MAt.deckS {G : aG} {own : Nat → Nat} {h : aH} {nx m c : Nat} {σ : aSg} {th x : Int32} (M : MAt G own h nx m σ th) (hσ : sgOk c σ) (hc9 : c ≤ 512) (hx : inD σ x = true) :
    ∃ (i dk a b : Nat) (ds l : List Nat) (ps : List (List Nat)) (sc : Nat), i < 4 ∧ i < σ.1.length ∧ x = nI i ∧ dkI σ x = (l, ps, sc) ∧ LsAt G own h 20 (m + 1) ds ∧ i < ds.length ∧ ds.length ≤ 4 ∧ ds.getD i 0 = dk ∧ CardsAt h dk a b l sc ∧ (dk < nx ∧ a < nx ∧ b < nx) ∧ (dk ≠ m ∧ a ≠ m ∧ b ≠ m) ∧ 2 ≤ l.length ∧ l.length ≤ 16 ∧ cOk l.length l ∧ cAll l.length l ∧ sc < 2 ^ 31 ∧ DkAt G own h i dk (l, ps, sc) ∧
    ∀ (own1 : Nat → Nat) (h1 : aH) (n1 : Nat) (d : aDk), Fr own own1 h h1 nx n1 (KDk i) → DkAt G own1 h1 i dk d → MAt G own1 h1 n1 m (setD σ x d) th := by
  obtain ⟨i, hi, rfl⟩ := in_of hx (by have := hσ.1; omega)
  obtain ⟨e1, e2, ⟨sum, e3⟩, ⟨ds, e4, e5, e6⟩, ss, e7, e8, e9⟩ := M
  have h4 := hσ.1
  have h5 := hσ.2.1
  have hD := e6 i hi
  have hk := hσ.2.2.2.1 i hi
  have hdI : dkI σ (nI i) = σ.1.getD i dk0 := dkI_i (by omega)
  obtain ⟨⟨l, ps, sc⟩, hdd⟩ : ∃ d, d = σ.1.getD i dk0 := ⟨_, rfl⟩
  rw [← hdd] at hD hk hdI
  obtain ⟨k1, k2, k3, k4, k5, k6⟩ := hk
  have hD0 := hD
  obtain ⟨d1, d2, d2b, a, b, as, bs, d3, d4, d5, d6, d7, d8⟩ := hD
  have ne : ∀ q, own q ≠ 22 → q ≠ m := fun q hq w => hq (by rw [w]; exact e2)
  refine ⟨i, ds.getD i 0, a, b, ds, l, ps, sc, by omega, hi, rfl, hdI, e4, by omega, by omega, rfl, d3, ⟨own_lt e1 (by omega), own_lt e1 (by omega), own_lt e1 (by omega)⟩, ⟨ne _ (by omega), ne _ (by omega), ne _ (by omega)⟩, k1.1, k1.2, k2, k3, by have : sc ≤ c := k6; omega, hD0, fun own1 h1 n1 d F D => ?_⟩
  have at1 : ∀ q, own q ≠ 0 → ¬ KDk i (own q) → h1 q = h q ∧ own1 q = own q := fun q g1 g2 => F.at e1 g1 g2
  have hset : setD σ (nI i) d = (σ.1.set i d, σ.2) := by unfold setD; rw [nI_nat (by omega)]
  rw [hset]
  refine ⟨F.2.2.1, (at1 m (by omega) (by unfold KDk; omega)).2.trans e2, ⟨sum, (at1 m (by omega) (by unfold KDk; omega)).1.trans e3⟩, ⟨ds, e4.keep (fun q hq => at1 q (by omega) (by unfold KDk; omega)), by rw [List.length_set]; exact e5, fun j hj => ?_⟩, ss, e7.keep (fun q hq => at1 q (by omega) (by unfold KDk; omega)), e8, fun j hj => (e9 j hj).keep (fun q hq => at1 q (by omega) (by have : j < 4 := Nat.lt_of_lt_of_le hj h5; unfold KDk; omega))⟩
  rw [List.length_set] at hj
  rw [gD_setD hi]
  by_cases q : j = i
  · rw [if_pos q, q]; exact D
  · rw [if_neg q]; exact (e6 j hj).keep (fun b hb => at1 b (by omega) (by have : j < 4 := Nat.lt_of_lt_of_le hj h4; unfold KDk; omega))
/-- the list of decks, and what one deck more makes -/
theorem MAt.decksS {G : aG} {own : Nat → Nat} {h : aH} {nx m : Nat} {σ : aSg} {th : Int32} (h4 : σ.1.length ≤ 4) (h5 : σ.2.1.length ≤ 4) (M : MAt G own h nx m σ th) :
    ∃ ds : List Nat, LsAt G own h 20 (m + 1) ds ∧ ds.length = σ.1.length ∧ (∀ i, i < ds.length → aStor h (ds.getD i 0) ∧ own (ds.getD i 0) ≠ 20 ∧ ds.getD i 0 < nx) ∧
    ∀ (own1 : Nat → Nat) (h1 : aH) (n1 dk : Nat) (d : aDk), σ.1.length < 4 → Fr own own1 h h1 nx n1 (fun i => i = 20) → LsAt G own1 h1 20 (m + 1) (ds ++ [dk]) → DkAt G own h σ.1.length dk d → MAt G own1 h1 n1 m (σ.1 ++ [d], σ.2) th := by
  obtain ⟨e1, e2, ⟨sum, e3⟩, ⟨ds, e4, e5, e6⟩, ss, e7, e8, e9⟩ := M
  refine ⟨ds, e4, e5, fun i hi => ?_, fun own1 h1 n1 dk d hl F L D => ?_⟩
  · obtain ⟨d1, d2, d2b, a, b, as, bs, d3, d4⟩ := e6 i (by omega)
    exact ⟨Or.inl ⟨6, _, Or.inr rfl, d3.o⟩, by omega, own_lt e1 (by omega)⟩
  · have at1 : ∀ q, own q ≠ 0 → own q ≠ 20 → h1 q = h q ∧ own1 q = own q := fun q g1 g2 => F.at e1 g1 g2
    refine ⟨F.2.2.1, (at1 m (by omega) (by omega)).2.trans e2, ⟨sum, (at1 m (by omega) (by omega)).1.trans e3⟩, ⟨ds ++ [dk], L, by simp [e5], fun j hj => ?_⟩, ss, e7.keep (fun q hq => at1 q (by omega) (by omega)), e8, fun j hj => (e9 j hj).keep (fun q hq => at1 q (by omega) (by have : j < 4 := Nat.lt_of_lt_of_le hj h5; omega))⟩
    rw [gD_appD]
    simp only [List.length_append, List.length_cons, List.length_nil] at hj
    by_cases q : j < σ.1.length
    · rw [if_pos q, gD_l (by omega)]; exact (e6 j q).keep (fun b hb => at1 b (by omega) (by omega))
    · have hj2 : j = σ.1.length := by omega
      rw [if_neg q, if_pos hj2, hj2, ← e5, gD_r, e5]
      exact D.keep (fun b hb => at1 b (by omega) (by omega))
/-- the list of sequences, and what one more makes -/
theorem MAt.seqsS {G : aG} {own : Nat → Nat} {h : aH} {nx m : Nat} {σ : aSg} {th : Int32} (h4 : σ.1.length ≤ 4) (h5 : σ.2.1.length ≤ 4) (M : MAt G own h nx m σ th) :
    ∃ ss : List Nat, LsAt G own h 21 (m + 2) ss ∧ ss.length = σ.2.1.length ∧ (∀ i, i < ss.length → aStor h (ss.getD i 0) ∧ own (ss.getD i 0) ≠ 21 ∧ ss.getD i 0 < nx) ∧
    ∀ (own1 : Nat → Nat) (h1 : aH) (n1 s : Nat) (d : aSt), σ.2.1.length < 4 → Fr own own1 h h1 nx n1 (fun i => i = 21) → LsAt G own1 h1 21 (m + 2) (ss ++ [s]) → SlAt G own h σ.2.1.length s d → MAt G own1 h1 n1 m (σ.1, σ.2.1 ++ [d], σ.2.2) th := by
  obtain ⟨e1, e2, ⟨sum, e3⟩, ⟨ds, e4, e5, e6⟩, ss, e7, e8, e9⟩ := M
  refine ⟨ss, e7, e8, fun i hi => ?_, fun own1 h1 n1 s d hl F L D => ?_⟩
  · obtain ⟨ts, d1, d2⟩ := e9 i (by omega)
    obtain ⟨o1, md, e, o2, o3⟩ := d1
    exact ⟨Or.inl ⟨1, _, Or.inl rfl, o2⟩, by omega, own_lt e1 (by omega)⟩
  · have at1 : ∀ q, own q ≠ 0 → own q ≠ 21 → h1 q = h q ∧ own1 q = own q := fun q g1 g2 => F.at e1 g1 g2
    refine ⟨F.2.2.1, (at1 m (by omega) (by omega)).2.trans e2, ⟨sum, (at1 m (by omega) (by omega)).1.trans e3⟩, ⟨ds, e4.keep (fun q hq => at1 q (by omega) (by omega)), e5, fun i hi => (e6 i hi).keep (fun b hb => at1 b (by omega) (by have : i < 4 := Nat.lt_of_lt_of_le hi h4; omega))⟩, ss ++ [s], L, by simp [e8], fun j hj => ?_⟩
    show SlAt G own1 h1 j ((ss ++ [s]).getD j 0) ((σ.2.1 ++ [d]).getD j [])
    have hj : j < (σ.2.1 ++ [d]).length := hj
    rw [gD_appS]
    simp only [List.length_append, List.length_cons, List.length_nil] at hj
    by_cases q : j < σ.2.1.length
    · rw [if_pos q, gD_l (by omega)]; exact (e9 j q).keep (fun b hb => at1 b (by omega) (by omega))
    · have hj2 : j = σ.2.1.length := by omega
      rw [if_neg q, if_pos hj2, hj2, ← e8, gD_r, e8]
      exact D.keep (fun b hb => at1 b (by omega) (by omega))
/-- the sequence that is asked for, and what a change of it makes -/
theorem MAt.seqS {G : aG} {own : Nat → Nat} {h : aH} {nx m c : Nat} {σ : aSg} {th x : Int32} (M : MAt G own h nx m σ th) (hσ : sgOk c σ) (hx : inS σ x = true) :
    ∃ (j s : Nat) (ss ts : List Nat) (st : aSt), j < 4 ∧ j < σ.2.1.length ∧ x = nI j ∧ sqI σ x = st ∧ LsAt G own h 21 (m + 2) ss ∧ j < ss.length ∧ ss.length ≤ 4 ∧ ss.getD j 0 = s ∧ LsAt G own h (16 + j) s ts ∧ ts.length = st.length ∧ (∀ t, t < st.length → own (ts.getD t 0) = 30 ∧ StepAt h (ts.getD t 0) (st.getD t (0, 0))) ∧ stOk st ∧
    ∀ (own1 : Nat → Nat) (h1 : aH) (n1 : Nat) (d : aSt), Fr own own1 h h1 nx n1 (fun i => i = 16 + j) → SlAt G own1 h1 j s d → MAt G own1 h1 n1 m (σ.1, σ.2.1.set x.toInt.toNat d, σ.2.2) th := by
  obtain ⟨i, hi, rfl⟩ := in_of hx (by have := hσ.2.1; omega)
  obtain ⟨e1, e2, ⟨sum, e3⟩, ⟨ds, e4, e5, e6⟩, ss, e7, e8, e9⟩ := M
  have h4 := hσ.1
  have h5 := hσ.2.1
  obtain ⟨ts, s1, s2, s3⟩ := e9 i hi
  refine ⟨i, ss.getD i 0, ss, ts, σ.2.1.getD i [], by omega, hi, rfl, sqI_i (by omega), e7, by omega, by omega, rfl, s1, s2, s3, hσ.2.2.2.2 i hi, fun own1 h1 n1 d F D => ?_⟩
  have at1 : ∀ q, own q ≠ 0 → own q ≠ 16 + i → h1 q = h q ∧ own1 q = own q := fun q g1 g2 => F.at e1 g1 g2
  rw [nI_nat (show i < 2 ^ 31 by omega)]
  refine ⟨F.2.2.1, (at1 m (by omega) (by omega)).2.trans e2, ⟨sum, (at1 m (by omega) (by omega)).1.trans e3⟩, ⟨ds, e4.keep (fun q hq => at1 q (by omega) (by omega)), e5, fun j hj => (e6 j hj).keep (fun b hb => at1 b (by omega) (by have : j < 4 := Nat.lt_of_lt_of_le hj h4; omega))⟩, ss, e7.keep (fun q hq => at1 q (by omega) (by omega)), by show ss.length = (σ.2.1.set i d).length; rw [List.length_set]; exact e8, fun j hj => ?_⟩
  have hj : j < (σ.2.1.set i d).length := hj
  rw [List.length_set] at hj
  show SlAt G own1 h1 j (ss.getD j 0) ((σ.2.1.set i d).getD j [])
  rw [gD_setS hi]
  by_cases q : j = i
  · rw [if_pos q, q]; exact D
  · rw [if_neg q]; exact (e9 j hj).keep (fun b hb => at1 b (by omega) (by omega))
/-- going one way after another is going their product -/
theorem fol_assoc {n : Nat} {a b c : List Nat} (hb : cOk n b) (hc : cOk n c) (ha : cOk n a) : fol (fol a b) c = fol a (fol b c) := by
  refine l_ext (by rw [fol_len, fol_len, fol_len]) (fun i hi => ?_)
  rw [fol_len] at hi
  have h1 := hc.2 i hi
  have h2 : c.getD i 0 / 2 < b.length := by rw [hb.1]; exact h1
  have hi2 : i < (fol b c).length := by rw [fol_len]; exact hi
  rw [fol_at hi, fol_at h2, fol_at hi2, fol_at hi]
  obtain ⟨x, hx⟩ : ∃ x, x = b.getD (c.getD i 0 / 2) 0 := ⟨_, rfl⟩
  obtain ⟨y, hy⟩ : ∃ y, y = c.getD i 0 % 2 := ⟨_, rfl⟩
  have hy2 : y < 2 := by omega
  rw [← hx, ← hy, xor1_half x y hy2]
  have e2 : (x ^^^ y) % 2 = (x % 2) ^^^ y := by
    rcases (show y = 0 ∨ y = 1 by omega) with q | q
    · rw [q, Nat.xor_zero, Nat.xor_zero]
    · rw [q]
      have e := Nat.xor_mod_two_eq_one (a := x) (b := 1)
      rcases (show x % 2 = 0 ∨ x % 2 = 1 by omega) with w | w
      · rw [w]
        have : (x ^^^ 1) % 2 = 1 := e.mpr (by omega)
        rw [this]; rfl
      · rw [w]
        have : ¬ (x ^^^ 1) % 2 = 1 := fun z => by have := e.mp z; omega
        have h0 : (x ^^^ 1) % 2 = 0 := by omega
        rw [h0]; rfl
  rw [e2, Nat.xor_assoc]
theorem oft_fol {n : Nat} {l : List Nat} (hl : cOk n l) : ∀ (d : Nat) (a s : List Nat) (t : Nat), cOk n a → cOk n s → fol l (oft d a s t) = oft d (fol l a) s t := by
  intro d
  induction d with
  | zero => intro a s t _ _; rfl
  | succ d ih =>
    intro a s t ha hs
    unfold oft
    by_cases c : t = 0
    · rw [if_pos c, if_pos c]
    · rw [if_neg c, if_neg c]
      by_cases c2 : t % 2 = 1
      · rw [if_pos c2, if_pos c2, ih _ _ _ (fol_cOk ha hs) (fol_cOk hs hs), fol_assoc ha hs hl]
      · rw [if_neg c2, if_neg c2, ih _ _ _ ha (fol_cOk hs hs)]
theorem putD_0 {n t : Nat} {d : aDk} {s : List Nat} (hl : cOk n d.1) (hs : cOk n s) : putD0 d (oft 20 (idL n) s t) = putD d s t := by
  unfold putD0 putD
  rw [oft_fol hl 20 (idL n) s t idL_cOk hs, fol_id hl]
theorem oft20_cOk {n t : Nat} {s : List Nat} (hs : cOk n s) : cOk n (oft 20 (idL n) s t) := oft_cOk idL_cOk hs
