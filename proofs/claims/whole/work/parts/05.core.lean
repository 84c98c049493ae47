/-! ===== MY OWN LAYER: an abstract heap (address -> what lies there), one judgement, one contract ===== -/
theorem inX1 : ∀ w ∈ wsX10, w ∈ lw_tbl := by decide +kernel
theorem inX3 : ∀ w ∈ wsX30, w ∈ lw_tbl := by decide +kernel
theorem inX4 : ∀ w ∈ wsX40, w ∈ lw_tbl := by decide +kernel
theorem inX6 : ∀ w ∈ wsX60, w ∈ lw_tbl := by decide +kernel
theorem inX7 : ∀ w ∈ wsX70, w ∈ lw_tbl := by decide +kernel
theorem inX8 : ∀ w ∈ wsX80, w ∈ lw_tbl := by decide +kernel
theorem inX9 : ∀ w ∈ wsX90, w ∈ lw_tbl := by decide +kernel
theorem inJL : ∀ w ∈ wsJx4a65c0, w ∈ lw_tbl := by decide +kernel
theorem inJI : ∀ w ∈ wsJx354110, w ∈ lw_tbl := by decide +kernel
abbrev aH : Type := Nat → Option va_E
abbrev aL : Type := List (Nat × Value)
abbrev aPost : Type := (Option Value ⊕ String) → aH → Nat → Prop
/-- the classes' numbers, the arrays' classes, the first address of ours, the empty list's array, the mirror of Object[] -/
abbrev aG : Type := va_G × (Nat → ClassId) × Nat × Nat
abbrev aM : Type := MethodName × ByteArray × Nat × Option FieldType
abbrev aBs (G : aG) : Nat → Prop := fun q => G.2.2.1 ≤ q
def amap (dA : Nat → ClassId) (e : va_E) : va_E := match e with
  | .inl q => .inl (dA q.1, q.2)
  | .inr o => .inr o
def aRep (G : aG) (h : aH) (H : Heap) : Prop := (∀ (a : Nat) (e : va_E), h a = some e → va_at G.1 vwCl (a, amap G.2.1 e) H) ∧ ∀ (a : Nat) (e : va_E), h a = some e → G.2.2.1 ≤ a
def hw (h : aH) (a : Nat) (e : va_E) : aH := fun q => if q = a then some e else h q
theorem hw_s {h : aH} {a : Nat} {e : va_E} : hw h a e a = some e := if_pos rfl
theorem hw_n {h : aH} {a b : Nat} {e : va_E} (n : b ≠ a) : hw h a e b = h b := if_neg n
theorem hw_o {h : aH} {a b : Nat} {e f : va_E} (n : b ≠ a) (g : h b = some f) : hw h a e b = some f := (hw_n n).trans g
def atys (dA : Nat → ClassId) : List (ClassId × FieldType) := [(dA 0, .int), (dA 1, .boolean), (dA 2, .long), (dA 3, .double), (dA 4, .object "java/lang/Object"), (dA 5, .object "ShuffleHall$Deck"), (dA 6, .object "ShuffleHall$Sequence"), (dA 7, .array .int)]
/-- words that are kept though not 'good' -/
def aNk : Cond → Bool
  | .fieldLinkNest .. => true
  | .methodLinkNest .. => true
  | .declares .. => true
  | .castable .. => true
  | _ => false
def aWd : List Cond := lw_tbl.filter goodWord
def aWn : List Cond := lw_tbl.filter aNk
theorem aWd_of {w : Cond} (h : w ∈ lw_tbl) (g : goodWord w = true) : w ∈ aWd := List.mem_filter.mpr ⟨h, g⟩
theorem aWn_of {w : Cond} (h : w ∈ lw_tbl) (g : aNk w = true) : w ∈ aWn := List.mem_filter.mpr ⟨h, g⟩
theorem aNk_warm {w : Cond} {s U : State} (hk : aNk w = true) (hW : s.WarmedH U.vm) (h : va_Nw w s) : va_Nw w U := by
  cases w <;> first | exact va_Nw.warmF hW h | exact va_Nw.warmM hW h | exact va_Nw.warmD hW h | exact va_Nw.warmC hW h | exact absurd hk Bool.false_ne_true
theorem aNk_ot {w : Cond} (hk : aNk w = true) : w.onTables = true := by
  cases w <;> first | rfl | exact absurd hk Bool.false_ne_true
abbrev yItr_has : MethodName := ⟨"java/util/Iterator", "hasNext", "()Z"⟩
abbrev yItr_next : MethodName := ⟨"java/util/Iterator", "next", "()Ljava/lang/Object;"⟩
def aStr : List (String × Nat × String) := [("ShuffleHall", 78, "no shuffle for this deck"), ("ShuffleHall", 53, "there are 4 decks"), ("ShuffleHall", 42, "cards is not 2 to 16"), ("ShuffleHall", 296, "nothing is asked with this number"), ("ShuffleHall", 294, "often is not 1 to 1000000"), ("ShuffleHall", 291, "no such position"), ("ShuffleHall", 289, "no such sequence"), ("ShuffleHall", 287, "no such deck"), ("ShuffleHall", 196, "riffles is not 0 to 12"), ("ShuffleHall", 141, "no such card"), ("ShuffleHall", 134, "a step is no shuffle for this deck"), ("ShuffleHall", 125, "the sequence has 8 steps"), ("ShuffleHall", 120, "kind is not 0 to 9, or number below 0"), ("ShuffleHall", 110, "there are 4 sequences")]
def aNcs : List (String × String) := [("java/lang/IllegalArgumentException", "java/lang/IndexOutOfBoundsException"), ("java/lang/IllegalStateException", "java/lang/IndexOutOfBoundsException"), ("java/lang/IllegalStateException", "java/lang/IllegalArgumentException")]
/-- int[][] can be made -/
def aAOA (U : State) : Prop := (Cond.arrayOver (.array .int)).before #[] U = true
/-- what holds of the tables and of the old heap, at any call -/
def aK (G : aG) (U : State) : Prop :=
  va_K G.1 vwCl (atys G.2.1) U ∧ (∀ w ∈ aWn, va_Nw w U) ∧ (∀ q ∈ aStr, ∃ sa, vk_R q.1 q.2.1 q.2.2 sa U) ∧ G.2.2.1 ≤ U.heap.size ∧
  vx_Zq Bundle.tN "UNASSIGNED_STACK" Bundle.steD (aBs G) U U.heap ∧ vx_Zq Bundle.tN "SUPPRESSED_SENTINEL" Bundle.listD (aBs G) U U.heap ∧
  (va_AO "java/lang/Object" U ∧ va_AO "ShuffleHall$Deck" U ∧ va_AO "ShuffleHall$Sequence" U ∧ aAOA U) ∧
  (va_Fw RJx35411 yItr_has yJx35411_hasNext_aae02 U ∧ va_Fw RJx35411 yItr_next yJx35411_next_0502b U) ∧
  (va_Z "java/util/ArrayList" "DEFAULTCAPACITY_EMPTY_ELEMENTDATA" "[Ljava/lang/Object;" (.ref G.2.2.2) (aBs G) U U.heap ∧ va_T (.object "java/lang/Object") G.2.2.2 0 (fun _ => .null) (aBs G) U U.heap) ∧
  (∃ mi, va_Mi "[Ljava/lang/Object;" mi U) ∧ (∀ q ∈ aNcs, va_Nc q.1 q.2 U)
theorem aAOA.moved {u U : State} (hvm : u.vm.Alike U.vm) (h : aAOA u) : aAOA U := by
  obtain ⟨comp, c, k, h1, h2, h3, h4, h5⟩ : ∃ comp c k, u.vm.findClass (FieldType.array .int).toString = some comp ∧ (u.vm.classes.findIdx? fun (x : Class) => match x.kind with | .array component _ => component == comp | _ => false) = some c ∧ u.vm.classes[c]? = some k ∧ k.kind = .array comp (.array .int) ∧ u.vm.findClass ("[" ++ (FieldType.array .int).toString) = some c := by
    unfold aAOA Cond.before at h
    simp only [Cond.holds, Cond.value, beq_iff_eq] at h
    cases hc : u.vm.findClass (FieldType.array .int).toString with
    | none => simp [hc] at h
    | some comp =>
      simp only [hc, Option.bind_some, Option.bind_eq_some_iff, Option.map_eq_some_iff] at h
      obtain ⟨c, hi, k, hk, hb⟩ := h
      obtain ⟨hlt, hp, -⟩ := Array.findIdx?_eq_some_iff_getElem.mp hi
      have hkk : u.vm.classes[c] = k := (Array.getElem?_eq_some_iff.mp hk).2
      rw [hkk] at hp
      cases hkind : k.kind with
      | array component ty =>
        rw [hkind] at hb hp
        simp at hb hp
        exact ⟨comp, c, k, rfl, hi, hk, by rw [hkind, hp, hb.1], hb.2⟩
      | _ => rw [hkind] at hb; simp at hb
  obtain ⟨k', hk', he⟩ := hvm.2.2 _ _ h3
  have hi : (U.vm.classes.findIdx? fun (x : Class) => match x.kind with | .array component _ => component == comp | _ => false) = some c := by
    have e1 := va_idx_bare U.vm comp
    have e2 := va_idx_bare u.vm comp
    have e3 : U.vm.bare = u.vm.bare := by first | exact hvm.bare_eq | exact hvm.bare_eq.symm
    rw [e3] at e1
    exact (e1.symm.trans e2).trans h2
  have hkind : k'.kind = .array comp (.array .int) := by rw [he]; exact h4
  have f1 : U.vm.findClass (FieldType.array .int).toString = some comp := by rw [hvm.findClass]; exact h1
  have f2 : U.vm.findClass ("[" ++ (FieldType.array .int).toString) = some c := by rw [hvm.findClass]; exact h5
  unfold aAOA Cond.before Cond.holds
  simp only [Cond.value]
  rw [f1, Option.bind_some]
  refine (congrArg (fun o : Option Nat => (o.bind (fun c => (U.vm.classes[c]?).map fun (k : Class) => match k.kind with | .array _ ty => decide (ty = FieldType.array .int) && decide (U.vm.findClass ("[" ++ (FieldType.array .int).toString) = some c) | _ => false) == some true)) hi).trans ?_
  simp [hk', hkind, f2]
theorem aK.moved {G : aG} {u U : State} (hW : u.WarmedH U.vm) (hz : u.heap.size ≤ U.heap.size) (hq : ∀ a : Nat, a < u.heap.size → ¬ aBs G a → U.heap[a]? = u.heap[a]?) (h : aK G u) : aK G U := by
  obtain ⟨h1, h2, h3, h4, h5, h6, ⟨h7, h8, h9, h10⟩, ⟨h11, h12⟩, ⟨h13, h14⟩, ⟨mi, h15⟩, h16⟩ := h
  have hv := hW.alike
  refine ⟨h1.moved hv, fun w hw => aNk_warm (List.mem_filter.mp hw).2 hW (h2 w hw), fun q hq => ?_, Nat.le_trans h4 hz, (h5.moved hv).kept hq, (h6.moved hv).kept hq, ⟨h7.moved hv, h8.moved hv, h9.moved hv, h10.moved hv⟩, ⟨va_Fw.moved (by decide) hv h11, va_Fw.moved (by decide) hv h12⟩, ⟨(h13.moved hv).kept hq, (h14.moved hv).kept hq⟩, ⟨mi, h15.moved hv⟩, fun q hq => (h16 q hq).moved hv⟩
  obtain ⟨sa, hs⟩ := h3 q hq
  exact ⟨sa, hs.warm hW⟩
/-- room of a method k levels above the leaves, for mc cells of ms slots -/
def aRoom (k mc ms : Nat) : Room := { frames := k, cells := mc, slots := ms, locals := 40 * k }
abbrev aQf : Type := List Frame → Array Value → State → State → Prop
def aCx (G : aG) (mm : aM) (tb : List (Nat × Nat × Nat × Nat)) (p : Program) (l : Launch) (s : State) (m : MethodId) (args : Array Value) (meth : Method) (c : Code) : Prop :=
  p.tables.exec = Jvm.exec ∧ c.code = mm.2.1 ∧ c.maxLocals = mm.2.2.1 ∧ s.vm.findClass mm.1.cls = some m.cls ∧ (∀ w ∈ aWd, w.before args s = true) ∧ meth.sig.returnType = mm.2.2.2 ∧ meth.locks = false ∧ c.exceptionTable.toList = tableOf tb ∧ aK G s ∧ l.stackTraces = false ∧ meth.name = mm.1.name
/-- THE JUDGEMENT: the machine at pc of method mm, with locals L, stack st and our heap h, comes to an end with Qf -/
def aw (G : aG) (mm : aM) (tb : List (Nat × Nat × Nat × Nat)) (R : Room) (Qf : aQf) (cells slots : Nat) (h : aH) (nx pc : Nat) (L : aL) (st : List Value) : Prop :=
  ∀ (p : Program) (l : Launch) (e : Env) (s : State) (m : MethodId) (args : Array Value) (below : List Frame) (meth : Method) (c : Code) (H : Heap) (locs : List Loc) (ls : Array Slot),
    aCx G mm tb p l s m args meth c → aRep G h H → H.size = nx → va_S (aBs G) s.heap H locs → lv_has ls mm.2.2.1 L →
    W p l e R s m args below meth c H locs cells slots (Qf below args s) (F0 m pc ls st)
/-- the judgement with an exception of class E thrown at pc -/
def awx (G : aG) (mm : aM) (tb : List (Nat × Nat × Nat × Nat)) (R : Room) (Qf : aQf) (cells slots : Nat) (h : aH) (nx pc : Nat) (L : aL) (E : String) : Prop :=
  ∀ (p : Program) (l : Launch) (e : Env) (s : State) (m : MethodId) (args : Array Value) (below : List Frame) (meth : Method) (c : Code) (H : Heap) (locs : List Loc) (ls : Array Slot) (rest : List Value) (q : Nat) (ce : Cell),
    aCx G mm tb p l s m args meth c → aRep G h H → H.size = nx → va_S (aBs G) s.heap H locs → lv_has ls mm.2.2.1 L → H[q]? = some ce → ce.vm = .none → s.vm.findClass E = some ce.cls →
    vx_W p l e R s m args below meth c H locs cells slots (Qf below args s) (F0 m pc ls rest) q
/-- what a method of ours has done at its end -/
def aQc (G : aG) (po : aPost) : Array Value → State → Outcome → State → Prop := fun _ st o t => ∃ (v : Option Value) (h : aH), o = .returned v ∧ aRep G h t.heap ∧ po (.inl v) h t.heap.size ∧ va_F (aBs G) st t
def aXC (G : aG) (po : aPost) : String → State → State → Prop := fun E st t => ∃ h : aH, aRep G h t.heap ∧ po (.inr E) h t.heap.size ∧ va_F (aBs G) st t
def aEnd (G : aG) (po : aPost) (mc ms : Nat) : aQf := fun below args s => vx_MQ below (aQc G po) (aXC G po) args s mc ms (aBs G)
def aPc (G : aG) (as : List Value) (h : aH) (nx : Nat) : Array Value → State → Prop := fun v U => v = as.toArray ∧ aRep G h U.heap ∧ U.heap.size = nx ∧ aK G U
def aws (mm : aM) : List Cond := .code mm.1 mm.2.1 mm.2.2.1 mm.2.2.2 :: aWd
/-- THE CONTRACT of a method: k levels, at most mc new cells of ms slots; called with as in the heap h (nx: the next address), it ends as po says -/
def aMet (G : aG) (mm : aM) (k mc ms : Nat) (as : List Value) (h : aH) (nx : Nat) (po : aPost) : Prop := ∀ l : Launch, l.stackTraces = false → vx_Met l mm.1 (aws mm) (aRoom k mc ms) (aPc G as h nx) (aQc G po) (aXC G po) mc ms (aBs G)
theorem aPc_blind {G : aG} {as : List Value} {h : aH} {nx : Nat} : FrameBlind (aPc G as h nx) := fun a U g mk hp => ⟨hp.1, hp.2.1, hp.2.2.1, hp.2.2.2.moved (State.WarmedH.refl U) (Nat.le_refl _) (fun _ _ _ => rfl)⟩
theorem aWd_good : ∀ w ∈ aWd, (w.onTables && w.keeps) = true ∨ ∃ ty, w = .arrayClass ty := fun _ h => good_of_word (List.mem_filter.mp h).2
theorem aMet_of {G : aG} {mm : aM} {k mc ms : Nat} {as : List Value} {h : aH} {nx : Nat} {po : aPost} (hy : plainName mm.1.cls = true) (hn : (lg_sl as).length ≤ mm.2.2.1)
    (body : aw G mm [] (aRoom k mc ms) (aEnd G po mc ms) 0 0 h nx 0 (lv_args 0 as) []) : aMet G mm k mc ms as h nx po := by
  intro l hl
  refine vx_ofW (cc := mm.2.1) (maxL := mm.2.2.1) (ret := mm.2.2.2) (ws' := aWd) hy rfl ?_
  intro p e s m args below meth c s₁ B hml ht hp
  obtain ⟨rfl, hR, hz, hK⟩ := hp
  have hts := atoms_spec (ws := aws mm) B.pre
  have ht' : c.exceptionTable.toList = tableOf [] := by
    cases hx : c.exceptionTable.toList with
    | nil => rfl
    | cons x xs => exact (ht x (by rw [hx]; exact List.mem_cons_self)).elim
  have he := lv_entry as (n := mm.2.2.1) hn
  rw [lg_entry_eq]
  exact body p l e s m _ below meth c s.heap [] _ ⟨B.exec, B.bytes, hml, findClass_of_methodNamed B.named, fun w hw => hts w (List.mem_cons_of_mem _ hw), B.returns, B.notSynchronized, ht', hK, hl, (name_of_methodNamed B.named B.method).1⟩ hR hz va_S.rf he
