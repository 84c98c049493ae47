/-! ===== all decks, all sequences of the model ===== -/
theorem MAt.all {G : aG} {own : Nat → Nat} {h : aH} {nx m c : Nat} {σ : aSg} {th : Int32} (M : MAt G own h nx m σ th) (hσ : sgOk c σ) (hc9 : c ≤ 512) :
    ∃ ds : List Nat, LsAt G own h 20 (m + 1) ds ∧ ds.length = σ.1.length ∧ m + 1 < nx ∧ ∀ i, i < σ.1.length → ∃ (a b : Nat) (l : List Nat) (ps : List (List Nat)) (sc : Nat), σ.1.getD i dk0 = (l, ps, sc) ∧ CardsAt h (ds.getD i 0) a b l sc ∧ (ds.getD i 0 < nx ∧ a < nx ∧ b < nx) ∧ (ds.getD i 0 ≠ m ∧ a ≠ m ∧ b ≠ m) ∧ 2 ≤ l.length ∧ l.length ≤ 16 ∧ cOk l.length l ∧ cAll l.length l ∧ sc < 2 ^ 31 := by
  obtain ⟨e1, e2, -, ⟨ds, e4, e5, e6⟩, -⟩ := M
  refine ⟨ds, e4, e5, own_lt e1 (by rw [e4.1]; decide), fun i hi => ?_⟩
  have hD := e6 i hi
  have hk := hσ.2.2.2.1 i hi
  have h4 := hσ.1
  obtain ⟨⟨l, ps, sc⟩, hdd⟩ : ∃ d, d = σ.1.getD i dk0 := ⟨_, rfl⟩
  rw [← hdd] at hD hk ⊢
  obtain ⟨k1, k2, k3, k4, k5, k6⟩ := hk
  obtain ⟨d1, d2, d2b, a, b, as, bs, d3, d4, d5, d6, d7, d8⟩ := hD
  have ne : ∀ q, own q ≠ 22 → q ≠ m := fun q hq w => hq (by rw [w]; exact e2)
  exact ⟨a, b, l, ps, sc, rfl, d3, ⟨own_lt e1 (by omega), own_lt e1 (by omega), own_lt e1 (by omega)⟩, ⟨ne _ (by omega), ne _ (by omega), ne _ (by omega)⟩, k1.1, k1.2, k2, k3, by have : sc ≤ c := k6; omega⟩
theorem ItAt.keep {h h1 : aH} {t a j : Nat} (I : ItAt h t a j) (o1 : h1 t = h t) (o2 : h1 a = h a) : ItAt h1 t a j := by
  obtain ⟨md, lr, e, n, e1, e2⟩ := I
  exact ⟨md, lr, e, n, o1.trans e1, o2.trans e2⟩
theorem ItAt.o {h : aH} {t a j : Nat} (I : ItAt h t a j) : ∃ fs, h t = some (.inr (0, fs)) := by
  obtain ⟨md, lr, e, n, e1, e2⟩ := I
  exact ⟨_, e1⟩
theorem LsAt.fr {G : aG} {own : Nat → Nat} {h h1 : aH} {nx k a : Nat} {xs : List Nat} (L : LsAt G own h k a xs) (ho : ∀ b, nx ≤ b → own b = 0) (hk : k ≠ 0) (o : ∀ b, b < nx → h1 b = h b) : LsAt G own h1 k a xs :=
  L.keep (fun b hb => ⟨o b (own_lt ho (by omega)), rfl⟩)
