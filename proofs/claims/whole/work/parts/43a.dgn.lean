/-! ===== the model's digest: what its loops keep ===== -/
theorem inS_i {σ : aSg} {i : Nat} (h : i < σ.2.1.length) (h4 : σ.2.1.length ≤ 4) : inS σ (nI i) = true := by
  unfold inS; rw [nI_toInt (by omega)]; exact decide_eq_true ⟨by omega, by omega⟩
def DgN (h h1 : aH) (nx n1 m t : Nat) (x : Int64) : Prop := nx ≤ n1 ∧ h1 m = some (mObj m (nI 0) t x) ∧ ∀ b, b < nx → b ≠ m → h1 b = h b
theorem DgN.step {h h1 h2 h3 : aH} {nx n1 n2 m t : Nat} {x y : Int64} (D : DgN h h1 nx n1 m t x) (hn : n1 ≤ n2) (o : ∀ b, b < n1 → h2 b = h1 b) (e : h3 m = some (mObj m (nI 0) t y)) (o2 : ∀ b, b ≠ m → h3 b = h2 b) : DgN h h3 nx n2 m t y :=
  ⟨Nat.le_trans D.1 hn, e, fun b hb hm => (o2 b hm).trans ((o b (Nat.lt_of_lt_of_le hb D.1)).trans (D.2.2 b hb hm))⟩
theorem DgN.fr {h h1 h2 : aH} {nx n1 n2 m t : Nat} {x : Int64} (D : DgN h h1 nx n1 m t x) (hm : m < nx) (hn : n1 ≤ n2) (o : ∀ b, b < nx → h2 b = h1 b) : DgN h h2 nx n2 m t x :=
  ⟨Nat.le_trans D.1 hn, (o m hm).trans D.2.1, fun b hb h0 => (o b hb).trans (D.2.2 b hb h0)⟩
theorem DgN.M {G : aG} {h h1 : aH} {nx n1 m : Nat} {own : Nat → Nat} {σ : aSg} {th : Int32} {x : Int64} (D : DgN h h1 nx n1 m σ.2.2 x) (h4 : σ.1.length ≤ 4) (h5 : σ.2.1.length ≤ 4) (M : MAt G own h nx m σ th) : MAt G own h1 n1 m σ (nI 0) := M.th h4 h5 D.1 D.2.1 D.2.2
theorem DgN.L {G : aG} {h h1 : aH} {nx n1 m t k a : Nat} {own : Nat → Nat} {xs : List Nat} {x : Int64} (D : DgN h h1 nx n1 m t x) (L : LsAt G own h k a xs) (ho : ∀ b, nx ≤ b → own b = 0) (hm : own m = 22) (hk : k ≠ 0 ∧ k ≠ 22) : LsAt G own h1 k a xs :=
  L.keep (fun b hb => ⟨D.2.2 b (own_lt ho (by omega)) (fun z => by rw [z] at hb; omega), rfl⟩)
theorem DgN.C {h h1 : aH} {nx n1 m t d a b sc : Nat} {l : List Nat} {x : Int64} (D : DgN h h1 nx n1 m t x) (C : CardsAt h d a b l sc) (hb : d < nx ∧ a < nx ∧ b < nx) (hm : d ≠ m ∧ a ≠ m ∧ b ≠ m) : CardsAt h1 d a b l sc :=
  C.keep (D.2.2 d hb.1 hm.1) (D.2.2 a hb.2.1 hm.2.1) (D.2.2 b hb.2.2 hm.2.2)
def ItD (h : aH) (nx n m t j : Nat) : Prop := (nx ≤ t ∧ t < n ∧ m + 1 < nx) ∧ ItAt h t (m + 1) j
theorem ItD.step {h1 h2 h3 : aH} {nx n1 n2 m t j : Nat} (I : ItD h1 nx n1 m t j) (hnx : nx ≤ n1) (hn : n1 ≤ n2) (o : ∀ b, b < n1 → h2 b = h1 b) (o2 : ∀ b, b ≠ m → h3 b = h2 b) : ItD h3 nx n2 m t j :=
  ⟨⟨I.1.1, Nat.lt_of_lt_of_le I.1.2.1 hn, I.1.2.2⟩, I.2.keep ((o2 t (by have := I.1; omega)).trans (o t I.1.2.1)) ((o2 _ (by omega)).trans (o _ (by have := I.1; omega)))⟩
