/-! ===== the model: its state on the heap, how its calls end ===== -/
def StepAt (h : aH) (x : Nat) (s : Nat × Nat) : Prop := ∃ f : Nat → Int32, h x = some (.inl (0, 2, .inl f)) ∧ f 0 = nI s.1 ∧ f 1 = nI s.2
theorem StepAt.keep {h h1 : aH} {x : Nat} {s : Nat × Nat} (S : StepAt h x s) (o : h1 x = h x) : StepAt h1 x s := by
  obtain ⟨f, e1, e2⟩ := S
  exact ⟨f, o.trans e1, e2⟩
theorem StepAt.s {h : aH} {x : Nat} {s : Nat × Nat} (S : StepAt h x s) : aStor h x := by
  obtain ⟨f, e1, -⟩ := S
  exact Or.inr ⟨0, _, _, Or.inl rfl, e1⟩
/-- the model's sequence number j: a list at s of its steps -/
def SlAt (G : aG) (own : Nat → Nat) (h : aH) (j s : Nat) (st : aSt) : Prop :=
  ∃ ts : List Nat, LsAt G own h (16 + j) s ts ∧ ts.length = st.length ∧ ∀ t, t < st.length → own (ts.getD t 0) = 30 ∧ StepAt h (ts.getD t 0) (st.getD t (0, 0))
theorem SlAt.keep {G : aG} {own own1 : Nat → Nat} {h h1 : aH} {j s : Nat} {st : aSt} (S : SlAt G own h j s st) (o : ∀ b, (own b = 30 ∨ own b = 16 + j) → h1 b = h b ∧ own1 b = own b) : SlAt G own1 h1 j s st := by
  obtain ⟨ts, e1, e2, e3⟩ := S
  refine ⟨ts, e1.keep (fun b hb => o b (Or.inr hb)), e2, fun t ht => ?_⟩
  obtain ⟨q1, q2⟩ := e3 t ht
  exact ⟨(o _ (Or.inl q1)).2.trans q1, q2.keep (o _ (Or.inl q1)).1⟩
abbrev mObj (m : Nat) (th : Int32) (t : Nat) (sum : Int64) : va_E := .inr (8, [.int th, .ref (m + 1), .ref (m + 2), .int (nI t), .long sum])
/-- the model at m, with the state σ, its latest call's number th -/
def MAt (G : aG) (own : Nat → Nat) (h : aH) (nx m : Nat) (σ : aSg) (th : Int32) : Prop :=
  (∀ b, nx ≤ b → own b = 0) ∧ own m = 22 ∧ (∃ sum : Int64, h m = some (mObj m th σ.2.2 sum)) ∧
  (∃ ds : List Nat, LsAt G own h 20 (m + 1) ds ∧ ds.length = σ.1.length ∧ ∀ i, i < σ.1.length → DkAt G own h i (ds.getD i 0) (σ.1.getD i dk0)) ∧
  ∃ ss : List Nat, LsAt G own h 21 (m + 2) ss ∧ ss.length = σ.2.1.length ∧ ∀ j, j < σ.2.1.length → SlAt G own h j (ss.getD j 0) (σ.2.1.getD j [])
theorem MAt.keep {G : aG} {own own1 : Nat → Nat} {h h1 : aH} {nx n1 m : Nat} {σ : aSg} {th : Int32} (h4 : σ.1.length ≤ 4) (h5 : σ.2.1.length ≤ 4) (M : MAt G own h nx m σ th) (ho : ∀ b, n1 ≤ b → own1 b = 0) (o : ∀ b, own b ≠ 0 → h1 b = h b ∧ own1 b = own b) : MAt G own1 h1 n1 m σ th := by
  obtain ⟨e1, e2, ⟨sum, e3⟩, ⟨ds, e4, e5, e6⟩, ss, e7, e8, e9⟩ := M
  exact ⟨ho, (o m (by omega)).2.trans e2, ⟨sum, (o m (by omega)).1.trans e3⟩, ⟨ds, e4.keep (fun b hb => o b (by omega)), e5, fun i hi => (e6 i hi).keep (fun b hb => o b (by omega))⟩, ss, e7.keep (fun b hb => o b (by omega)), e8, fun j hj => (e9 j hj).keep (fun b hb => o b (by omega))⟩
/-- only the model's own object has changed: its number and its sum -/
theorem MAt.th {G : aG} {own : Nat → Nat} {h h1 : aH} {nx n1 m : Nat} {σ : aSg} {th th1 : Int32} {sum : Int64} (h4 : σ.1.length ≤ 4) (h5 : σ.2.1.length ≤ 4) (M : MAt G own h nx m σ th) (hn : nx ≤ n1) (e : h1 m = some (mObj m th1 σ.2.2 sum)) (o : ∀ b, b < nx → b ≠ m → h1 b = h b) : MAt G own h1 n1 m σ th1 := by
  obtain ⟨e1, e2, -, ⟨ds, e4, e5, e6⟩, ss, e7, e8, e9⟩ := M
  have o2 : ∀ b, own b ≠ 0 → own b ≠ 22 → h1 b = h b ∧ own b = own b := fun b hb hb2 => ⟨o b (own_lt e1 hb) (fun z => hb2 (by rw [z]; exact e2)), rfl⟩
  exact ⟨fun b hb => e1 b (by omega), e2, ⟨sum, e⟩, ⟨ds, e4.keep (fun b hb => o2 b (by omega) (by omega)), e5, fun i hi => (e6 i hi).keep (fun b hb => o2 b (by omega) (by omega))⟩, ss, e7.keep (fun b hb => o2 b (by omega) (by omega)), e8, fun j hj => (e9 j hj).keep (fun b hb => o2 b (by omega) (by omega))⟩
abbrev cdA (E : String) : Nat := if E = xIOB then 1 else if E = xIAE then 2 else 3
abbrev cdB (E : String) : Nat := if E = xIAE then 1 else 2
abbrev cdC (_ : String) : Nat := 1
/-- what the model answers, and its number, where the place answers r -/
def mRes (cd : String → Nat) (z : Value) (r : Option Value ⊕ String) : Value × Nat := match r with
  | .inl (some v) => (v, 0)
  | .inl none => (z, 0)
  | .inr E => (z, cd E)
abbrev KM (j : Nat) : Prop := j ≠ 0 ∧ j ≠ 30
/-- how a call of the model ends -/
def mPo (G : aG) (own : Nat → Nat) (h : aH) (nx m : Nat) (cd : String → Nat) (z : Value) (r : aRs) : aPost := fun o h1 n1 =>
  o = .inl (some (mRes cd z r.1).1) ∧ ∃ own1 : Nat → Nat, Fr own own1 h h1 nx n1 KM ∧ MAt G own1 h1 n1 m r.2 (nI (mRes cd z r.1).2)
theorem mAsk {G : aG} {own : Nat → Nat} {h h1 : aH} {nx n1 m t : Nat} {σ : aSg} {th : Int32} {sum : Int64} {cd : String → Nat} {z v : Value} {r : aRs} {o9 : Option Value ⊕ String} (h4 : σ.1.length ≤ 4) (h5 : σ.2.1.length ≤ 4) (M : MAt G own h nx m σ th) (hn : nx ≤ n1) (e : h1 m = some (mObj m (nI t) σ.2.2 sum)) (o : ∀ b, b < nx → b ≠ m → h1 b = h b) (hs : r = (o9, σ)) (hr : mRes cd z o9 = (v, t)) : mPo G own h nx m cd z r (.inl (some v)) h1 n1 := by
  subst hs
  refine ⟨by rw [hr], own, ⟨hn, fun _ _ => rfl, fun b hb => M.1 b (by omega), fun b hb => Or.inl (M.1 b hb), fun b hb hk => o b hb (fun w => hk (by rw [w, M.2.1]; decide))⟩, ?_⟩
  rw [hr]
  exact M.th h4 h5 hn e o
/-- a call that changes the state -/
theorem mDid {G : aG} {own own1 : Nat → Nat} {h h1 : aH} {nx n1 m t : Nat} {σ1 : aSg} {cd : String → Nat} {z v : Value} {r : aRs} {o9 : Option Value ⊕ String} (F : Fr own own1 h h1 nx n1 KM) (M : MAt G own1 h1 n1 m σ1 (nI t)) (hs : r = (o9, σ1)) (hr : mRes cd z o9 = (v, t)) : mPo G own h nx m cd z r (.inl (some v)) h1 n1 := by
  subst hs
  exact ⟨by rw [hr], own1, F, by rw [hr]; exact M⟩
/-- the deck that is asked for -/
theorem MAt.deck {G : aG} {own : Nat → Nat} {h : aH} {nx m c : Nat} {σ : aSg} {th x : Int32} (M : MAt G own h nx m σ th) (hσ : sgOk c σ) (hc9 : c ≤ 512) (hx : inD σ x = true) :
    ∃ (i dk a b : Nat) (ds l : List Nat) (ps : List (List Nat)) (sc : Nat), i < 4 ∧ i < σ.1.length ∧ x = nI i ∧ dkI σ x = (l, ps, sc) ∧ LsAt G own h 20 (m + 1) ds ∧ i < ds.length ∧ ds.length ≤ 4 ∧ ds.getD i 0 = dk ∧ CardsAt h dk a b l sc ∧ (dk < nx ∧ a < nx ∧ b < nx) ∧ (dk ≠ m ∧ a ≠ m ∧ b ≠ m) ∧ 2 ≤ l.length ∧ l.length ≤ 16 ∧ cOk l.length l ∧ cAll l.length l ∧ sc < 2 ^ 31 ∧ DkAt G own h i dk (l, ps, sc) := by
  obtain ⟨i, hi, rfl⟩ := in_of hx (by have := hσ.1; omega)
  obtain ⟨e1, e2, -, ⟨ds, e4, e5, e6⟩, -⟩ := M
  have h4 := hσ.1
  have hD := e6 i hi
  have hk := hσ.2.2.2.1 i hi
  have hdI : dkI σ (nI i) = σ.1.getD i dk0 := dkI_i (by omega)
  obtain ⟨⟨l, ps, sc⟩, hdd⟩ : ∃ d, d = σ.1.getD i dk0 := ⟨_, rfl⟩
  rw [← hdd] at hD hk hdI
  obtain ⟨k1, k2, k3, k4, k5, k6⟩ := hk
  have hD0 := hD
  obtain ⟨d1, d2, d2b, a, b, as, bs, d3, d4, d5, d6, d7, d8⟩ := hD
  have ne : ∀ q, own q ≠ 22 → q ≠ m := fun q hq w => hq (by rw [w]; exact e2)
  exact ⟨i, ds.getD i 0, a, b, ds, l, ps, sc, by omega, hi, rfl, hdI, e4, by omega, by omega, rfl, d3, ⟨own_lt e1 (by omega), own_lt e1 (by omega), own_lt e1 (by omega)⟩, ⟨ne _ (by omega), ne _ (by omega), ne _ (by omega)⟩, k1.1, k1.2, k2, k3, by have : sc ≤ c := k6; omega, hD0⟩
/-- the sequence that is asked for -/
theorem MAt.seq {G : aG} {own : Nat → Nat} {h : aH} {nx m c : Nat} {σ : aSg} {th x : Int32} (M : MAt G own h nx m σ th) (hσ : sgOk c σ) (hx : inS σ x = true) :
    ∃ (j s : Nat) (ss ts : List Nat) (st : aSt), j < 4 ∧ j < σ.2.1.length ∧ x = nI j ∧ sqI σ x = st ∧ LsAt G own h 21 (m + 2) ss ∧ j < ss.length ∧ ss.length ≤ 4 ∧ ss.getD j 0 = s ∧ LsAt G own h (16 + j) s ts ∧ ts.length = st.length ∧ (∀ t, t < st.length → own (ts.getD t 0) = 30 ∧ StepAt h (ts.getD t 0) (st.getD t (0, 0))) ∧ stOk st := by
  obtain ⟨i, hi, rfl⟩ := in_of hx (by have := hσ.2.1; omega)
  obtain ⟨e1, e2, -, -, ss, e4, e5, e6⟩ := M
  have h4 := hσ.2.1
  obtain ⟨ts, s1, s2, s3⟩ := e6 i hi
  exact ⟨i, ss.getD i 0, ss, ts, σ.2.1.getD i [], by omega, hi, rfl, sqI_i (by omega), e4, by omega, by omega, rfl, s1, s2, s3, hσ.2.2.2.2 i hi⟩
theorem subI1 : ∀ n, n < 17 → (nI n - nI 1).toInt = (n : Int) - 1 := by decide +kernel
section ACASTS
variable {G : aG} {mm : aM} {tb : List (Nat × Nat × Nat × Nat)} {R : Room} {Qf : aQf} {cells slots : Nat} {h : aH} {nx pc : Nat} {L : aL} {st : List Value}
/-- a cast to an object's own class -/
theorem aw_castO {q : vw_C} {ci index a : Nat} {fs : List Value} {nm : String} (hf : h a = some (.inr (ci, fs))) (hc : vwCl[ci]? = some q) (hq : q.1 = nm) (hl : Cond.classLink mm.1.cls index nm ∈ lw_tbl) (hd : decode mm.2.1 pc = .ok (.checkcast index, 3)) (kk : aw G mm tb R Qf cells slots h nx (pc + 3) L (.ref a :: st)) : aw G mm tb R Qf cells slots h nx pc L (.ref a :: st) := by
  intro p l e s m args below meth c H locs ls C RR Z S V
  subst hq
  exact va_castS C.1 C.2.1 C.2.2.2.1 (C.2.2.2.2.1 _ (aWd_of hl rfl)) (C.2.2.2.2.2.2.2.2.1.1.1 ci q hc).2 (va_recv (q := q) C.2.2.2.2.2.2.2.2.1.1 (aRep_P RR hf) hc (q0 := 0) rfl) hd (kk p l e s m args below meth c H locs ls C RR Z S V)
end ACASTS
