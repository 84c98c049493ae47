/-! ===== a list of the JDK's: what lies in it, whose cells are its own ===== -/
theorem aMetM_ofF {G : aG} {mm : aM} {k mc ms mi : Nat} {as : List Value} {h : aH} {nx : Nat} {po : aPost} (hy : plainFor mm.1 = true) (hn : (lg_sl as).length ≤ mm.2.2.1)
    (body : ∀ (p : Program) (l : Launch) (e : Env) (s : State) (m : MethodId) (args : Array Value) (below : List Frame) (meth : Method) (c : Code) (H : Heap) (locs : List Loc) (ls : Array Slot), aCx G mm [] p l s m args meth c → va_Mi "[Ljava/lang/Object;" mi s → aRep G h H → H.size = nx → va_S (aBs G) s.heap H locs → lv_has ls mm.2.2.1 (lv_args 0 as) → W p l e (aRoom k mc ms) s m args below meth c H locs 0 0 (aEnd G po mc ms below args s) (F0 m 0 ls [])) :
    ∀ l : Launch, l.stackTraces = false → vx_Met l mm.1 (aws mm) (aRoom k mc ms) (aPcM G as h nx mi) (aQc G po) (aXC G po) mc ms (aBs G) := by
  intro l hl
  refine MetFree.of_bodySF (code := mm.2.1) (maxLocals := mm.2.2.1) (ret := mm.2.2.2) hy ?_ ?_
  · intro args s m h hn
    obtain ⟨meth, c, h1, h2, h3, h4, h5, h6, -, -⟩ := Cond.code_spec hn (atoms_spec (ws := aws mm) h _ List.mem_cons_self)
    exact ⟨meth, c, h1, h2, h3, h4, h5, h6⟩
  · intro p e s m args below meth c s₁ B hml hp _
    have hh0 : s₁.heap = s.heap := by rw [B.state]; rfl
    obtain ⟨⟨rfl, hR, hz, hK⟩, hM⟩ := hp
    have hts := atoms_spec (ws := aws mm) B.pre
    have ht' : c.exceptionTable.toList = tableOf [] := by
      obtain ⟨meth9, c9, h1, h2, -, -, -, -, h7, -⟩ := Cond.code_spec B.named (hts _ List.mem_cons_self)
      cases Option.some.inj (h1.symm.trans B.method)
      cases Option.some.inj (h2.symm.trans (Stand.of_body B).code)
      rw [Array.isEmpty_iff.mp h7]
      rfl
    have he := lv_entry as (n := mm.2.2.1) hn
    have w := body p l e s m _ below meth c s.heap [] _ ⟨B.exec, B.bytes, hml, findClass_of_methodNamed B.named, fun w hw => hts w (List.mem_cons_of_mem _ hw), B.returns, B.notSynchronized, ht', hK, hl, (name_of_methodNamed B.named B.method).1⟩ hM hR hz va_S.rf he
    rw [← lg_entry_eq] at w
    obtain ⟨t, a1, o, b1, b2, b3⟩ := w s₁ hh0 (Stand.of_body B)
    exact ⟨t, o, a1, b1, b2, b3⟩
/-- what a call may change: the cells of those that K names; what is new is nobody's, or such a one's, or for reading alone (30) -/
def Fr (own own1 : Nat → Nat) (h h1 : aH) (nx n1 : Nat) (K : Nat → Prop) : Prop :=
  nx ≤ n1 ∧ (∀ b, b < nx → own1 b = own b) ∧ (∀ b, n1 ≤ b → own1 b = 0) ∧ (∀ b, nx ≤ b → own1 b = 0 ∨ own1 b = 30 ∨ K (own1 b)) ∧ ∀ b, b < nx → ¬ K (own b) → h1 b = h b
theorem Fr.tr {own own1 own2 : Nat → Nat} {h h1 h2 : aH} {nx n1 n2 : Nat} {K : Nat → Prop} (a : Fr own own1 h h1 nx n1 K) (b : Fr own1 own2 h1 h2 n1 n2 K) : Fr own own2 h h2 nx n2 K := by
  obtain ⟨a1, a2, a3, a4, a5⟩ := a
  obtain ⟨b1, b2, b3, b4, b5⟩ := b
  refine ⟨by omega, fun q hq => (b2 q (by omega)).trans (a2 q hq), b3, fun q hq => ?_, fun q hq hk => (b5 q (by omega) (by rw [a2 q hq]; exact hk)).trans (a5 q hq hk)⟩
  rcases Nat.lt_or_ge q n1 with z | z
  · rw [b2 q z]; exact a4 q hq
  · exact b4 q z
theorem Fr.mono {own own1 : Nat → Nat} {h h1 : aH} {nx n1 : Nat} {K K2 : Nat → Prop} (a : Fr own own1 h h1 nx n1 K) (hk : ∀ i, K i → K2 i) : Fr own own1 h h1 nx n1 K2 := by
  obtain ⟨a1, a2, a3, a4, a5⟩ := a
  exact ⟨a1, a2, a3, fun b hb => by rcases a4 b hb with z | z | z; exact Or.inl z; exact Or.inr (Or.inl z); exact Or.inr (Or.inr (hk _ z)), fun b hb hn => a5 b hb (fun z => hn (hk _ z))⟩
theorem Fr.rf {own : Nat → Nat} {h : aH} {nx : Nat} {K : Nat → Prop} (ho : ∀ b, nx ≤ b → own b = 0) : Fr own own h h nx nx K := ⟨Nat.le_refl _, fun _ _ => rfl, ho, fun b hb => Or.inl (ho b hb), fun _ _ _ => rfl⟩
/-- what only makes new cells that are nobody's -/
theorem Fr.ask {own : Nat → Nat} {h h1 : aH} {nx n1 : Nat} {K : Nat → Prop} (ho : ∀ b, nx ≤ b → own b = 0) (hn : nx ≤ n1) (hf : ∀ b, b < nx → h1 b = h b) : Fr own own h h1 nx n1 K := ⟨hn, fun _ _ => rfl, fun b hb => ho b (by omega), fun b hb => Or.inl (ho b hb), fun b hb _ => hf b hb⟩
/-- the array that holds a list's elements -/
def EsAt (G : aG) (own : Nat → Nat) (h : aH) (k e : Nat) (xs : List Nat) : Prop :=
  (e = G.2.2.2 ∧ xs = []) ∨ (own e = k ∧ ∃ (cap : Nat) (f : Nat → Option Nat), h e = some (.inl (4, cap, .inr (.inr (.inr (.inr f))))) ∧ xs.length ≤ cap ∧ 0 < cap ∧ cap ≤ 60 ∧ ∀ i, i < xs.length → f i = some (xs.getD i 0))
/-- a list at a, of owner k: the addresses xs lie in it -/
def LsAt (G : aG) (own : Nat → Nat) (h : aH) (k a : Nat) (xs : List Nat) : Prop :=
  own a = k ∧ ∃ (md : Int32) (e : Nat), h a = some (.inr (1, [.int md, .ref e, .int (nI xs.length)])) ∧ a ≠ e ∧ EsAt G own h k e xs
theorem EsAt.keep {G : aG} {own own1 : Nat → Nat} {h h1 : aH} {k e : Nat} {xs : List Nat} (E : EsAt G own h k e xs) (o : own e = k → h1 e = h e ∧ own1 e = own e) : EsAt G own1 h1 k e xs := by
  rcases E with E | ⟨e1, cap, f, e2, e3⟩
  · exact Or.inl E
  · obtain ⟨o1, o2⟩ := o e1
    exact Or.inr ⟨o2.trans e1, cap, f, o1.trans e2, e3⟩
theorem LsAt.keep {G : aG} {own own1 : Nat → Nat} {h h1 : aH} {k a : Nat} {xs : List Nat} (L : LsAt G own h k a xs) (o : ∀ b, own b = k → h1 b = h b ∧ own1 b = own b) : LsAt G own1 h1 k a xs := by
  obtain ⟨e1, md, e, e2, e3, e4⟩ := L
  obtain ⟨o1, o2⟩ := o a e1
  exact ⟨o2.trans e1, md, e, o1.trans e2, e3, e4.keep (o e)⟩
/-- an iterator at t over the list at a, j of its elements are told -/
def ItAt (h : aH) (t a j : Nat) : Prop := ∃ (md lr : Int32) (e : Value) (n : Int32), h t = some (.inr (0, [.int (nI j), .int lr, .int md, .ref a])) ∧ h a = some (.inr (1, [.int md, e, .int n]))
theorem cpy_lo {f g : Nat → Option Nat} {n j : Nat} (h : j < n) : va_cpy f g 0 0 n j = f j := by
  unfold va_cpy
  rw [if_pos ⟨Nat.zero_le _, by omega⟩]
  congr 1
  omega
