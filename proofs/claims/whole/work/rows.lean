section
-- ===== PART A: goes FIRST, ahead of the names: the tables' words, and 'selects' of the private methods out of them =====
/-- a private method of a class that the tables say can be made, by its rows of tables_1 -/
def lw_okq (q : MethodName × Nat) : Prop := (q.1.cls ≠ "java/lang/invoke/MethodHandle" ∧ q.1.cls ≠ "java/lang/invoke/VarHandle") ∧ Cond.instantiable q.1.cls q.2 ∈ tables_1 ∧ Cond.privateMethod q.1 ∈ tables_1 ∧ Cond.instanceMethod q.1 ∈ tables_1
theorem lw_p0 : lw_okq (⟨"java/lang/Throwable", "fillInStackTrace", "(I)Ljava/lang/Throwable;"⟩, 6) := ⟨⟨by decide +kernel, by decide +kernel⟩, List.mem_of_getElem? (i := 173) (by decide +kernel), List.mem_of_getElem? (i := 171) (by decide +kernel), List.mem_of_getElem? (i := 172) (by decide +kernel)⟩
theorem lw_p1 : lw_okq (⟨"ShuffleHall", "shufflesOfAll", "()I"⟩, 8) := ⟨⟨by decide +kernel, by decide +kernel⟩, List.mem_of_getElem? (i := 29) (by decide +kernel), List.mem_of_getElem? (i := 203) (by decide +kernel), List.mem_of_getElem? (i := 204) (by decide +kernel)⟩
theorem lw_p2 : lw_okq (⟨"ShuffleHall", "cardsOfAll", "()I"⟩, 8) := ⟨⟨by decide +kernel, by decide +kernel⟩, List.mem_of_getElem? (i := 29) (by decide +kernel), List.mem_of_getElem? (i := 211) (by decide +kernel), List.mem_of_getElem? (i := 212) (by decide +kernel)⟩
theorem lw_p3 : lw_okq (⟨"ShuffleHall", "facesUpOfAll", "()I"⟩, 8) := ⟨⟨by decide +kernel, by decide +kernel⟩, List.mem_of_getElem? (i := 29) (by decide +kernel), List.mem_of_getElem? (i := 223) (by decide +kernel), List.mem_of_getElem? (i := 224) (by decide +kernel)⟩
theorem lw_p4 : lw_okq (⟨"ShuffleHall", "mixedDeck", "(JI)J"⟩, 8) := ⟨⟨by decide +kernel, by decide +kernel⟩, List.mem_of_getElem? (i := 29) (by decide +kernel), List.mem_of_getElem? (i := 243) (by decide +kernel), List.mem_of_getElem? (i := 244) (by decide +kernel)⟩
theorem lw_p5 : lw_okq (⟨"ShuffleHall", "needDeck", "(I)LShuffleHall$Deck;"⟩, 8) := ⟨⟨by decide +kernel, by decide +kernel⟩, List.mem_of_getElem? (i := 29) (by decide +kernel), List.mem_of_getElem? (i := 251) (by decide +kernel), List.mem_of_getElem? (i := 252) (by decide +kernel)⟩
theorem lw_p6 : lw_okq (⟨"ShuffleHall$Row", "addLying", "(I)V"⟩, 3) := ⟨⟨by decide +kernel, by decide +kernel⟩, List.mem_of_getElem? (i := 41) (by decide +kernel), List.mem_of_getElem? (i := 393) (by decide +kernel), List.mem_of_getElem? (i := 394) (by decide +kernel)⟩
theorem lw_p7 : lw_okq (⟨"ShuffleHall", "needSequence", "(I)LShuffleHall$Sequence;"⟩, 8) := ⟨⟨by decide +kernel, by decide +kernel⟩, List.mem_of_getElem? (i := 29) (by decide +kernel), List.mem_of_getElem? (i := 459) (by decide +kernel), List.mem_of_getElem? (i := 460) (by decide +kernel)⟩
theorem lw_p8 : lw_okq (⟨"ShuffleHall$Sequence", "has", "(I)Z"⟩, 3) := ⟨⟨by decide +kernel, by decide +kernel⟩, List.mem_of_getElem? (i := 79) (by decide +kernel), List.mem_of_getElem? (i := 472) (by decide +kernel), List.mem_of_getElem? (i := 473) (by decide +kernel)⟩
theorem lw_p9 : lw_okq (⟨"ShuffleHall$Deck", "keptPlace", "()I"⟩, 4) := ⟨⟨by decide +kernel, by decide +kernel⟩, List.mem_of_getElem? (i := 57) (by decide +kernel), List.mem_of_getElem? (i := 556) (by decide +kernel), List.mem_of_getElem? (i := 557) (by decide +kernel)⟩
theorem lw_p10 : lw_okq (⟨"ShuffleHallModel", "refuse", "(I)I"⟩, 5) := ⟨⟨by decide +kernel, by decide +kernel⟩, List.mem_of_getElem? (i := 698) (by decide +kernel), List.mem_of_getElem? (i := 760) (by decide +kernel), List.mem_of_getElem? (i := 761) (by decide +kernel)⟩
theorem lw_p11 : lw_okq (⟨"java/util/ArrayList", "add", "(Ljava/lang/Object;[Ljava/lang/Object;I)V"⟩, 3) := ⟨⟨by decide +kernel, by decide +kernel⟩, List.mem_of_getElem? (i := 704) (by decide +kernel), List.mem_of_getElem? (i := 800) (by decide +kernel), List.mem_of_getElem? (i := 801) (by decide +kernel)⟩
theorem lw_p12 : lw_okq (⟨"java/util/ArrayList", "grow", "()[Ljava/lang/Object;"⟩, 3) := ⟨⟨by decide +kernel, by decide +kernel⟩, List.mem_of_getElem? (i := 704) (by decide +kernel), List.mem_of_getElem? (i := 804) (by decide +kernel), List.mem_of_getElem? (i := 805) (by decide +kernel)⟩
theorem lw_p13 : lw_okq (⟨"java/util/ArrayList", "grow", "(I)[Ljava/lang/Object;"⟩, 3) := ⟨⟨by decide +kernel, by decide +kernel⟩, List.mem_of_getElem? (i := 704) (by decide +kernel), List.mem_of_getElem? (i := 808) (by decide +kernel), List.mem_of_getElem? (i := 809) (by decide +kernel)⟩
theorem lw_p14 : lw_okq (⟨"ShuffleHallModel", "isDeck", "(I)Z"⟩, 5) := ⟨⟨by decide +kernel, by decide +kernel⟩, List.mem_of_getElem? (i := 698) (by decide +kernel), List.mem_of_getElem? (i := 853) (by decide +kernel), List.mem_of_getElem? (i := 854) (by decide +kernel)⟩
theorem lw_p15 : lw_okq (⟨"java/util/ArrayList", "fastRemove", "([Ljava/lang/Object;I)V"⟩, 3) := ⟨⟨by decide +kernel, by decide +kernel⟩, List.mem_of_getElem? (i := 704) (by decide +kernel), List.mem_of_getElem? (i := 920) (by decide +kernel), List.mem_of_getElem? (i := 921) (by decide +kernel)⟩
def lw_privs_1 : List (MethodName × Nat) := [(⟨"java/lang/Throwable", "fillInStackTrace", "(I)Ljava/lang/Throwable;"⟩, 6), (⟨"ShuffleHall", "shufflesOfAll", "()I"⟩, 8), (⟨"ShuffleHall", "cardsOfAll", "()I"⟩, 8), (⟨"ShuffleHall", "facesUpOfAll", "()I"⟩, 8), (⟨"ShuffleHall", "mixedDeck", "(JI)J"⟩, 8), (⟨"ShuffleHall", "needDeck", "(I)LShuffleHall$Deck;"⟩, 8), (⟨"ShuffleHall$Row", "addLying", "(I)V"⟩, 3), (⟨"ShuffleHall", "needSequence", "(I)LShuffleHall$Sequence;"⟩, 8), (⟨"ShuffleHall$Sequence", "has", "(I)Z"⟩, 3), (⟨"ShuffleHall$Deck", "keptPlace", "()I"⟩, 4), (⟨"ShuffleHallModel", "refuse", "(I)I"⟩, 5), (⟨"java/util/ArrayList", "add", "(Ljava/lang/Object;[Ljava/lang/Object;I)V"⟩, 3), (⟨"java/util/ArrayList", "grow", "()[Ljava/lang/Object;"⟩, 3), (⟨"java/util/ArrayList", "grow", "(I)[Ljava/lang/Object;"⟩, 3), (⟨"ShuffleHallModel", "isDeck", "(I)Z"⟩, 5), (⟨"java/util/ArrayList", "fastRemove", "([Ljava/lang/Object;I)V"⟩, 3)]
theorem lw_r1 : ∀ q ∈ lw_privs_1, lw_okq q := List.forall_mem_cons.mpr ⟨lw_p0, List.forall_mem_cons.mpr ⟨lw_p1, List.forall_mem_cons.mpr ⟨lw_p2, List.forall_mem_cons.mpr ⟨lw_p3, List.forall_mem_cons.mpr ⟨lw_p4, List.forall_mem_cons.mpr ⟨lw_p5, List.forall_mem_cons.mpr ⟨lw_p6, List.forall_mem_cons.mpr ⟨lw_p7, List.forall_mem_cons.mpr ⟨lw_p8, List.forall_mem_cons.mpr ⟨lw_p9, List.forall_mem_cons.mpr ⟨lw_p10, List.forall_mem_cons.mpr ⟨lw_p11, List.forall_mem_cons.mpr ⟨lw_p12, List.forall_mem_cons.mpr ⟨lw_p13, List.forall_mem_cons.mpr ⟨lw_p14, List.forall_mem_cons.mpr ⟨lw_p15, fun _ h => absurd h List.not_mem_nil⟩⟩⟩⟩⟩⟩⟩⟩⟩⟩⟩⟩⟩⟩⟩⟩
theorem lw_p16 : lw_okq (⟨"ShuffleHallModel", "isPlace", "(II)Z"⟩, 5) := ⟨⟨by decide +kernel, by decide +kernel⟩, List.mem_of_getElem? (i := 698) (by decide +kernel), List.mem_of_getElem? (i := 940) (by decide +kernel), List.mem_of_getElem? (i := 941) (by decide +kernel)⟩
theorem lw_p17 : lw_okq (⟨"ShuffleHallModel", "isSequence", "(I)Z"⟩, 5) := ⟨⟨by decide +kernel, by decide +kernel⟩, List.mem_of_getElem? (i := 698) (by decide +kernel), List.mem_of_getElem? (i := 959) (by decide +kernel), List.mem_of_getElem? (i := 960) (by decide +kernel)⟩
theorem lw_p18 : lw_okq (⟨"ShuffleHallModel", "wayOf", "(II)LShuffleHallModel$Way;"⟩, 5) := ⟨⟨by decide +kernel, by decide +kernel⟩, List.mem_of_getElem? (i := 698) (by decide +kernel), List.mem_of_getElem? (i := 967) (by decide +kernel), List.mem_of_getElem? (i := 968) (by decide +kernel)⟩
theorem lw_p19 : lw_okq (⟨"ShuffleHallModel", "ofSequenceNow", "(II)I"⟩, 5) := ⟨⟨by decide +kernel, by decide +kernel⟩, List.mem_of_getElem? (i := 698) (by decide +kernel), List.mem_of_getElem? (i := 1122) (by decide +kernel), List.mem_of_getElem? (i := 1123) (by decide +kernel)⟩
theorem lw_p20 : lw_okq (⟨"ShuffleHallModel", "periodNow", "(II)I"⟩, 5) := ⟨⟨by decide +kernel, by decide +kernel⟩, List.mem_of_getElem? (i := 698) (by decide +kernel), List.mem_of_getElem? (i := 1131) (by decide +kernel), List.mem_of_getElem? (i := 1132) (by decide +kernel)⟩
theorem lw_p21 : lw_okq (⟨"ShuffleHallModel", "manyNow", "(I)I"⟩, 5) := ⟨⟨by decide +kernel, by decide +kernel⟩, List.mem_of_getElem? (i := 698) (by decide +kernel), List.mem_of_getElem? (i := 1143) (by decide +kernel), List.mem_of_getElem? (i := 1144) (by decide +kernel)⟩
theorem lw_p22 : lw_okq (⟨"ShuffleHallModel", "add", "(I)V"⟩, 5) := ⟨⟨by decide +kernel, by decide +kernel⟩, List.mem_of_getElem? (i := 698) (by decide +kernel), List.mem_of_getElem? (i := 1182) (by decide +kernel), List.mem_of_getElem? (i := 1183) (by decide +kernel)⟩
def lw_privs_2 : List (MethodName × Nat) := [(⟨"ShuffleHallModel", "isPlace", "(II)Z"⟩, 5), (⟨"ShuffleHallModel", "isSequence", "(I)Z"⟩, 5), (⟨"ShuffleHallModel", "wayOf", "(II)LShuffleHallModel$Way;"⟩, 5), (⟨"ShuffleHallModel", "ofSequenceNow", "(II)I"⟩, 5), (⟨"ShuffleHallModel", "periodNow", "(II)I"⟩, 5), (⟨"ShuffleHallModel", "manyNow", "(I)I"⟩, 5), (⟨"ShuffleHallModel", "add", "(I)V"⟩, 5)]
theorem lw_r2 : ∀ q ∈ lw_privs_2, lw_okq q := List.forall_mem_cons.mpr ⟨lw_p16, List.forall_mem_cons.mpr ⟨lw_p17, List.forall_mem_cons.mpr ⟨lw_p18, List.forall_mem_cons.mpr ⟨lw_p19, List.forall_mem_cons.mpr ⟨lw_p20, List.forall_mem_cons.mpr ⟨lw_p21, List.forall_mem_cons.mpr ⟨lw_p22, fun _ h => absurd h List.not_mem_nil⟩⟩⟩⟩⟩⟩⟩
def lw_privs : List (MethodName × Nat) := lw_privs_1 ++ (lw_privs_2)
def lw_tbl : List Cond := k2_sels lw_privs ++ tables_1
theorem lw_privs_ok : ∀ q ∈ lw_privs, lw_okq q := by
  show ∀ q ∈ lw_privs_1 ++ (lw_privs_2), lw_okq q
  exact List.forall_mem_append.mpr ⟨lw_r1, lw_r2⟩
/-- the streams that the claim lets the run draw from -/
abbrev lw_cs : List Choice := [Jvm.Choice.named "NaN.bits"]
theorem lw_bits : nanBits ∈ lw_cs := by first | decide | exact List.mem_cons_self | simp [lw_cs, nanBits]
-- ===== end of PART A; then your names; then what follows =====
/-! ===== BEGIN words of one list among another's, by their places ===== -/
theorem goodIn_r {big : List Cond} (ws : List Cond) (ps : List Nat) (hp : ws = ps.filterMap (fun i => big[i]?)) (h : ws.all goodWord = true) : GoodIn big ws := by
  intro w hw
  have h1 := List.all_eq_true.mp h w hw
  rw [hp] at hw
  obtain ⟨i, -, hi⟩ := List.mem_filterMap.mp hw
  have hm : w ∈ big := by first | exact List.mem_of_getElem? hi | exact List.getElem?_mem hi
  exact ⟨hm, good_of_word h1⟩
theorem goodIn_app {big a b : List Cond} (ha : GoodIn big a) (hb : GoodIn big b) : GoodIn big (a ++ b) := fun w h => (List.mem_append.mp h).elim (ha w) (hb w)
theorem goodIn_ca {big a b : List Cond} {c : Cond} (ha : GoodIn big (c :: a)) (hb : GoodIn big b) : GoodIn big (c :: (a ++ b)) := fun w h => (List.mem_cons.mp h).elim (fun e => ha w (List.mem_cons.mpr (Or.inl e))) (fun h => (List.mem_append.mp h).elim (fun h => ha w (List.mem_cons.mpr (Or.inr h))) (hb w))
theorem goodIn_sub {big ws : List Cond} (hm : ∀ w ∈ ws, w ∈ big) (h : ws.all goodWord = true) : GoodIn big ws := fun w hw => ⟨hm w hw, good_of_word (List.all_eq_true.mp h w hw)⟩
/-! ===== END ===== -/

/-! ===== BEGIN exceptions that leave a method, and their catching by the caller (launches without stack traces) ===== -/
section VXA
/-! The laws vx_back, vx_callV, vx_callS, vx_callSW, vx_throw0, vx_throwS follow proofs of the library, with one case more: JvmDerived/Free/Laws.lean (Back.of_free), Shelf42/LK1.lean (callV, callS), Shelf/KitTraced.lean (throwNew0V, throwNewS). -/
/-- where a method has thrown q: the class by its name, the cell, what was written, the world -/
def vx_T (XC : String → State → State → Prop) (st : State) (q : Addr) (t : State) (mc ms : Nat) (free : Addr → Prop) : Prop :=
  ∃ (E : String) (ce : Cell) (L : List Loc), XC E st t ∧ t.heap[q]? = some ce ∧ ce.vm = .none ∧ st.vm.findClass E = some ce.cls ∧ st.WarmedH t.vm ∧ st.sameButNew ({ t with vm := st.vm } : State) L mc ms ∧ ∀ z ∈ L, free z.base
def vx_Q (Qc : Array Value → State → Outcome → State → Prop) (XC : String → State → State → Prop) (mc ms : Nat) (free : Addr → Prop) : Array Value → State → Outcome → State → Prop := fun a st o t =>
  (Qc a st o t ∧ ∃ L, FrameEnd st o t L mc ms ∧ ∀ q ∈ L, free q.base) ∨ ∃ q, o = .threw q ∧ vx_T XC st q t mc ms free
/-- a callee that returns or throws -/
def vx_Met (l : Launch) (y : MethodName) (ws : List Cond) (rm : Room) (Pc : Array Value → State → Prop) (Qc : Array Value → State → Outcome → State → Prop) (XC : String → State → State → Prop) (mc ms : Nat) (free : Addr → Prop) : Prop :=
  MetFree l y (headSpec ws rm) Pc (fun _ _ _ _ _ => True) (vx_Q Qc XC mc ms free)
def vx_Post (XC : String → State → State → Prop) (mc ms : Nat) (free : Addr → Prop) : Pt → Array Value → Addr → Pt → Prop := fun A a q B =>
  ∃ (g : JFrame) (mk : MethodId) (t : State) (L : List Loc) (E : String) (ce : Cell), B.U.heap = t.heap ∧ B.U.vm = t.vm ∧ XC E (A.U.calling g mk a) t ∧ t.heap[q]? = some ce ∧ ce.vm = .none ∧ A.U.vm.findClass E = some ce.cls ∧ B.locs = A.locs ++ L ∧ (∀ z ∈ L, free z.base) ∧ B.cells = A.cells + mc ∧ B.slots = A.slots + ms
def vx_Back (l : Launch) (R : Room) (p : Program) (e : Env) (below : List Frame) (s : State) (sargs : Array Value) (y : MethodName) (len W9 : Nat)
    (Pre : Pt → Array Value → Prop) (Post : Pt → Array Value → Option Value → Pt → Prop) (PostX : Pt → Array Value → Addr → Pt → Prop) : Prop :=
  ∀ (m : MethodId) (meth : Method) (c : Code) (A : Pt) (g : JFrame) (ig : Instr) (mk : MethodId) (a : Array Value),
    Stand p l e R s m sargs below meth c A.U A.locs A.cells A.slots → g.method = m → g.locals.size = c.maxLocals → decode c.code g.pc = .ok (ig, len) →
    2 * g.monitorRoom + (g.stack.map fun v => v.category).sum ≤ W9 → A.U.methodNamed? y = some mk → Pre A a →
    (∃ (v : Option Value) (B : Pt), Stand p l e R s m sargs below meth c B.U B.locs B.cells B.slots ∧ Post A a v B ∧
      Steps p.tables e below (doInvoke e (A.U.setTop g) [] mk a).1 (B.U.setTop { g with pc := g.pc + len, stack := v.toList ++ g.stack })) ∨
    (∃ (q : Addr) (B : Pt), Stand p l e R s m sargs below meth c B.U B.locs B.cells B.slots ∧ PostX A a q B ∧
      Steps p.tables e below (doInvoke e (A.U.setTop g) [] mk a).1 ((B.U.setTop g).pushFrame (.throwing q)))
section Payer
variable {l : Launch} {R : Room} {p : Program} {e : Env} {below : List Frame} {s : State} {sargs : Array Value} {y : MethodName} {len W9 : Nat}
theorem vx_back {ws : List Cond} {rm : Room} {Pc : Array Value → State → Prop} {Qc : Array Value → State → Outcome → State → Prop} {XC : String → State → State → Prop} {mc ms : Nat} {free : Addr → Prop} {bytes : ByteArray} {maxL : Nat} {ret : Option FieldType}
    (hM : vx_Met l y ws rm Pc Qc XC mc ms free) (hblind : FrameBlind Pc) (hrc : rm.cells = mc) (hrs : rm.slots = ms)
    (hframes : rm.frames + 1 ≤ R.frames) (hlocals : W9 + (maxL + 11) + rm.locals ≤ R.locals)
    (hws : ∀ w ∈ ws, ∀ a' U, s.WarmedH U.vm → w.before a' U = true) (hcode : Cond.code y bytes maxL ret ∈ ws) (hinit : ∀ a' U, s.WarmedH U.vm → (Cond.initialized y.cls).before a' U = true) :
    vx_Back l R p e below s sargs y len W9 (PreOf R mc ms Pc) (PostOf Qc mc ms free) (vx_Post XC mc ms free) := by
  intro m meth c A g ig mk a X hg hsize hdg hW hn hp
  have h1 : (headSpec ws rm).pre.before a A.U = true := atoms_intro fun w hw => hws w hw _ _ X.warmed
  have h2 : (Cond.code y bytes maxL ret).before a A.U = true := hws _ hcode _ _ X.warmed
  have h3 : (Cond.initialized y.cls).before a A.U = true := hinit _ _ X.warmed
  have h4 : A.cells + (headSpec ws rm).room.cells ≤ R.cells := by rw [show (headSpec ws rm).room.cells = mc from hrc]; exact hp.1
  have h5 : A.slots + (headSpec ws rm).room.slots ≤ R.slots := by rw [show (headSpec ws rm).room.slots = ms from hrs]; exact hp.2.1
  have hPc : Pc a (A.U.calling g mk a) := hblind _ _ _ _ hp.2.2
  obtain ⟨U, Ls, c0, s0⟩ := A
  dsimp only [Pt.U, Pt.locs, Pt.cells, Pt.slots] at h1 h2 h3 h4 h5 X hn hPc ⊢
  obtain ⟨methY, cY, hmY, hcY, -, hlY, -, -, -, -⟩ := Cond.code_spec hn h2
  obtain ⟨kY, hkY, -⟩ := className_of_methodNamed hn
  have hinitY : kY.init = .initialized := Cond.initialized_spec (findClass_of_methodNamed hn) hkY h3
  have h : At U g.method c below := by rw [hg]; exact X.here
  have hlocals9 : W9 + (maxL + 11) + (headSpec ws rm).room.locals ≤ R.locals := hlocals
  have happ : (headSpec ws rm).appliesLoose y e.platform (U.calling g mk a) = true :=
    Spec.appliesLoose_calling (g := g) h hdg hn hkY hinitY
      (X.room_calling (g := g) (R' := (headSpec ws rm).room) hsize hmY hcY hframes (by rw [hlY]; omega) h4 h5) h1
  obtain ⟨mid, hmid⟩ := h.above
  have hfr : (U.setTop g).frames = (.java g :: mid) ++ below := by rw [State.frames_setTop' g h.top, hmid]; rfl
  obtain ⟨o, s₂, hsteps, -, hend, hq⟩ := Steps.callFree hM p X.admits X.cas X.clock (acts := []) hfr happ hPc trivial
  have hq' : vx_Q Qc XC mc ms free a (U.calling g mk a) o s₂ := hq
  rw [State.frames_setTop' g h.top] at hend
  obtain ⟨g₀, hg0⟩ := Option.isSome_iff_exists.mp h.top
  obtain ⟨r, hr⟩ := State.topJava?_eq_some.mp hg0
  have hr' : (({ U with heap := s₂.heap, slotsUsed := s₂.slotsUsed } : State).setVm s₂.vm).frames = .java g₀ :: r := hr
  rcases hq' with ⟨hqc, L, hfe, hL⟩ | ⟨q, rfl, E, ce, L, hx, hce, hcv, hcl, hW₂, hsm, hL⟩
  · obtain ⟨⟨v, rfl⟩, hW₂, e2, q2, q3, q4, q5, q6⟩ := id hfe
    have e3 : s₂ = ({ (U.calling g mk a).setFrames s₂.frames with heap := s₂.heap, slotsUsed := s₂.slotsUsed } : State).setVm s₂.vm := by
      have : s₂ = ({ s₂ with vm := (U.calling g mk a).vm } : State).setVm s₂.vm := rfl
      rw [e2] at this
      exact this
    obtain ⟨c₂, i₂, len₂, hc₂, hd₂, hf₂⟩ := hend
    have hW' : U.WarmedH s₂.vm := hW₂
    have hcc : c₂ = c := by
      have h1 : s₂.code? g.method = U.code? g.method := by
        rw [State.code?_eq, State.code?_eq, hW'.alike.method?]
      exact Option.some.inj (hc₂.symm.trans (h1.trans h.code))
    subst hcc
    have hlen : len₂ = len := by rw [hdg] at hd₂; cases hd₂; rfl
    subst hlen
    have hs₂ : s₂ = (({ U with heap := s₂.heap, slotsUsed := s₂.slotsUsed } : State).setVm s₂.vm).setTop { g with pc := g.pc + len₂, stack := v.toList ++ g.stack } := by
      refine e3.trans ?_
      rw [hf₂, State.calling_eq h.top, State.setFrames_setFrames, State.setTop_of_frames _ hr', hr]
      rfl
    have hsame : U.sameButNew ({ U with heap := s₂.heap, slotsUsed := s₂.slotsUsed } : State) L mc ms := by
      refine ⟨?_, q2, q3, q4, q5, q6⟩
      obtain ⟨t, ht, -⟩ := State.frames_cons hr
      show ({ U with heap := s₂.heap, slotsUsed := s₂.slotsUsed } : State) = { U.setFrames U.frames with heap := s₂.heap, slotsUsed := s₂.slotsUsed }
      rw [State.setFrames_self ht]
    subst hg
    refine Or.inl ⟨v, ⟨(({ U with heap := s₂.heap, slotsUsed := s₂.slotsUsed } : State).setVm s₂.vm), Ls ++ L, c0 + mc, s0 + ms⟩,
      ⟨X.admits, X.cas, X.clock, X.frames, X.room, X.hears, X.method, X.code, (X.here.setHeapUsed s₂.heap s₂.slotsUsed).setVm hW'.alike, X.tail, State.WarmedH.trans X.warmed hW', X.limits, X.bytes, X.same.trans (hsame.setVm s.vm)⟩,
      ⟨g, mk, s₂, L, rfl, rfl, hqc, rfl, hL, rfl, rfl⟩, ?_⟩
    show Steps p.tables e below _ ((({ U with heap := s₂.heap, slotsUsed := s₂.slotsUsed } : State).setVm s₂.vm).setTop { g with pc := g.pc + len₂, stack := v.toList ++ g.stack })
    rw [← hs₂]
    exact hsteps
  · obtain ⟨e2, q2, q3, q4, q5, q6⟩ := id hsm
    have e3 : s₂ = ({ (U.calling g mk a).setFrames s₂.frames with heap := s₂.heap, slotsUsed := s₂.slotsUsed } : State).setVm s₂.vm := by
      have : s₂ = ({ s₂ with vm := (U.calling g mk a).vm } : State).setVm s₂.vm := rfl
      rw [e2] at this
      exact this
    have hf₂ : s₂.frames = .throwing q :: .java g :: U.frames.tail := hend
    have hW' : U.WarmedH s₂.vm := hW₂
    have hs₂ : s₂ = ((({ U with heap := s₂.heap, slotsUsed := s₂.slotsUsed } : State).setVm s₂.vm).setTop g).pushFrame (.throwing q) := by
      refine e3.trans ?_
      rw [hf₂, State.calling_eq h.top, State.setFrames_setFrames, State.pushFrame, State.frames_setTop _ hr', State.setTop_of_frames _ hr', State.setFrames_setFrames, hr]
      rfl
    have hsame : U.sameButNew ({ U with heap := s₂.heap, slotsUsed := s₂.slotsUsed } : State) L mc ms := by
      refine ⟨?_, q2, q3, q4, q5, q6⟩
      obtain ⟨t, ht, -⟩ := State.frames_cons hr
      show ({ U with heap := s₂.heap, slotsUsed := s₂.slotsUsed } : State) = { U.setFrames U.frames with heap := s₂.heap, slotsUsed := s₂.slotsUsed }
      rw [State.setFrames_self ht]
    subst hg
    refine Or.inr ⟨q, ⟨(({ U with heap := s₂.heap, slotsUsed := s₂.slotsUsed } : State).setVm s₂.vm), Ls ++ L, c0 + mc, s0 + ms⟩,
      ⟨X.admits, X.cas, X.clock, X.frames, X.room, X.hears, X.method, X.code, (X.here.setHeapUsed s₂.heap s₂.slotsUsed).setVm hW'.alike, X.tail, State.WarmedH.trans X.warmed hW', X.limits, X.bytes, X.same.trans (hsame.setVm s.vm)⟩,
      ⟨g, mk, s₂, L, E, ce, rfl, rfl, hx, hce, hcv, hcl, rfl, hL, rfl, rfl⟩, ?_⟩
    show Steps p.tables e below _ (((({ U with heap := s₂.heap, slotsUsed := s₂.slotsUsed } : State).setVm s₂.vm).setTop g).pushFrame (.throwing q))
    rw [← hs₂]
    exact hsteps
end Payer
section Calls
variable {p : Program} {l : Launch} {e : Env} {R : Room} {s : State} {m : MethodId} {args : Array Value} {below : List Frame} {meth : Method} {c : Code} {T : State} {locs : List Loc} {cells slots : Nat}
theorem vx_callV (X : Stand p l e R s m args below meth c T locs cells slots) (hexec : p.tables.exec = Jvm.exec) {own C : String} {index : Nat} {y : MethodName} {bytes : ByteArray} {maxL : Nat} {ret : Option FieldType}
    (hown : s.vm.findClass own = some m.cls) (hlink : (Cond.methodLink own index y).before args s = true) (hinst : (Cond.instanceMethod y).before args s = true) (hsel : (Cond.selects C y y).before args s = true)
    (hcode : (Cond.code y bytes maxL ret).before args s = true) (hy : y.cls ≠ "java/lang/invoke/MethodHandle" ∧ y.cls ≠ "java/lang/invoke/VarHandle")
    {W9 : Nat} {Pre : Pt → Array Value → Prop} {Post : Pt → Array Value → Option Value → Pt → Prop} {PostX : Pt → Array Value → Addr → Pt → Prop} (hK : vx_Back l R p e below s args y 3 W9 Pre Post PostX)
    {b : Addr} {cellB : Cell} (hcell : T.heap[b]? = some cellB) (hobj : cellB.vm.isStatics = false) (hcls : s.vm.findClass C = some cellB.cls)
    {g : JFrame} (hg : g.method = m) (hsize : g.locals.size = c.maxLocals) {argsL rest : List Value} (hlen : ∀ sig, parseMethodDescriptor y.desc = some sig → argsL.length = sig.parameters.length)
    (hstack : g.stack = argsL.reverse ++ .ref b :: rest) (hW : 2 * g.monitorRoom + (rest.map fun v => v.category).sum ≤ W9) (hdg : decode c.code g.pc = .ok (.invokevirtual index, 3))
    (hpre : ∀ vm₁, s.WarmedH vm₁ → Pre ⟨T.setVm vm₁, locs, cells, slots⟩ (Value.ref b :: argsL).toArray) :
    (∃ (v : Option Value) (vm₁ : Vm) (B : Pt), s.WarmedH vm₁ ∧ Stand p l e R s m args below meth c B.U B.locs B.cells B.slots ∧ Post ⟨T.setVm vm₁, locs, cells, slots⟩ (Value.ref b :: argsL).toArray v B ∧
      ∀ target, Steps p.tables e below (B.U.setTop { g with pc := g.pc + 3, stack := v.toList ++ rest }) target → Steps p.tables e below (T.setTop g) target) ∨
    (∃ (q : Addr) (vm₁ : Vm) (B : Pt), s.WarmedH vm₁ ∧ Stand p l e R s m args below meth c B.U B.locs B.cells B.slots ∧ PostX ⟨T.setVm vm₁, locs, cells, slots⟩ (Value.ref b :: argsL).toArray q B ∧
      Steps p.tables e below (T.setTop g) ((B.U.setTop { g with stack := rest }).pushFrame (.throwing q))) := by
  obtain ⟨mk, methM, hnamed, hmethM, hstM, habM⟩ := Cond.instanceMethod_spec hinst
  obtain ⟨methM', cM, hmethM', -, -, -, -, -, -, hsigM⟩ := Cond.code_spec hnamed hcode
  cases hmethM.symm.trans hmethM'
  obtain ⟨c2, r2, m2, q1, q2, q3, q4, kP, hkP, hkPi⟩ := Cond.selects_spec hsel
  cases hcls.symm.trans q1
  cases (State.methodFound?_of_named hnamed hy).symm.trans q2
  cases hnamed.symm.trans q3
  have hselP : selectMethod e.platform s.vm cellB.cls mk = .method mk := by rw [Launch.admits_selectMethod X.admits]; exact q4
  obtain ⟨vm₁, X₁, hstep₁⟩ := X.invokevirtual hexec hown hlink hnamed hmethM hstM hkP hkPi hy (a := b) (cell := cellB) hcell
    (fun z h => by rw [h] at hobj; cases hobj) hselP hmethM habM hkP hkPi (g := g) hg (argsL := argsL) (rest := rest) (hlen _ hsigM) hstack hdg
  rcases hK m meth c ⟨T.setVm vm₁, locs, cells, slots⟩ { g with stack := rest } (.invokevirtual index) mk (Value.ref b :: argsL).toArray X₁ hg hsize hdg hW (X₁.named hnamed) (hpre vm₁ X₁.warmed) with ⟨v, B, X', hpost, hsteps⟩ | ⟨q, B, X', hpost, hsteps⟩
  · exact Or.inl ⟨v, vm₁, B, X₁.warmed, X', hpost, fun target h => hstep₁ _ fun acts => by rw [doInvoke_state]; exact hsteps.trans h⟩
  · exact Or.inr ⟨q, vm₁, B, X₁.warmed, X', hpost, hstep₁ _ fun acts => by rw [doInvoke_state]; exact hsteps⟩
theorem vx_callS (X : Stand p l e R s m args below meth c T locs cells slots) (hexec : p.tables.exec = Jvm.exec) {own : String} {index : Nat} {y : MethodName} {bytes : ByteArray} {maxL : Nat} {ret : Option FieldType}
    (hown : s.vm.findClass own = some m.cls) (hlink : (Cond.methodLink own index y).before args s = true) (hstat : (Cond.static y).before args s = true) (hinit : (Cond.initialized y.cls).before args s = true)
    (hcode : (Cond.code y bytes maxL ret).before args s = true) (hy : y.cls ≠ "java/lang/invoke/MethodHandle" ∧ y.cls ≠ "java/lang/invoke/VarHandle")
    {W9 : Nat} {Pre : Pt → Array Value → Prop} {Post : Pt → Array Value → Option Value → Pt → Prop} {PostX : Pt → Array Value → Addr → Pt → Prop} (hK : vx_Back l R p e below s args y 3 W9 Pre Post PostX)
    {g : JFrame} (hg : g.method = m) (hsize : g.locals.size = c.maxLocals) {argsL rest : List Value} (hlen : ∀ sig, parseMethodDescriptor y.desc = some sig → argsL.length = sig.parameters.length)
    (hstack : g.stack = argsL.reverse ++ rest) (hW : 2 * g.monitorRoom + (rest.map fun v => v.category).sum ≤ W9) (hdg : decode c.code g.pc = .ok (.invokestatic index, 3))
    (hpre : ∀ vm₁, s.WarmedH vm₁ → Pre ⟨T.setVm vm₁, locs, cells, slots⟩ argsL.toArray) :
    (∃ (v : Option Value) (vm₁ : Vm) (B : Pt), s.WarmedH vm₁ ∧ Stand p l e R s m args below meth c B.U B.locs B.cells B.slots ∧ Post ⟨T.setVm vm₁, locs, cells, slots⟩ argsL.toArray v B ∧
      ∀ target, Steps p.tables e below (B.U.setTop { g with pc := g.pc + 3, stack := v.toList ++ rest }) target → Steps p.tables e below (T.setTop g) target) ∨
    (∃ (q : Addr) (vm₁ : Vm) (B : Pt), s.WarmedH vm₁ ∧ Stand p l e R s m args below meth c B.U B.locs B.cells B.slots ∧ PostX ⟨T.setVm vm₁, locs, cells, slots⟩ argsL.toArray q B ∧
      Steps p.tables e below (T.setTop g) ((B.U.setTop { g with stack := rest }).pushFrame (.throwing q))) := by
  obtain ⟨mk, hnamed⟩ := Cond.code_named hcode
  obtain ⟨methM, cM, hmethM, -, -, -, -, -, -, hsigM⟩ := Cond.code_spec hnamed hcode
  have hstatic : methM.isStatic = true := Cond.static_spec hnamed hmethM hstat
  obtain ⟨kP, hkP, -⟩ := className_of_methodNamed hnamed
  have hinitP : kP.init = .initialized := Cond.initialized_spec (findClass_of_methodNamed hnamed) hkP hinit
  obtain ⟨vm₁, X₁, hstep₁⟩ := X.invokestatic hexec hown hlink hnamed hmethM hstatic hkP hinitP hy (g := g) hg (argsL := argsL) (rest := rest) (hlen _ hsigM) hstack hdg
  rcases hK m meth c ⟨T.setVm vm₁, locs, cells, slots⟩ { g with stack := rest } (.invokestatic index) mk argsL.toArray X₁ hg hsize hdg hW (X₁.named hnamed) (hpre vm₁ X₁.warmed) with ⟨v, B, X', hpost, hsteps⟩ | ⟨q, B, X', hpost, hsteps⟩
  · exact Or.inl ⟨v, vm₁, B, X₁.warmed, X', hpost, fun target h => hstep₁ _ fun acts => by rw [doInvoke_state]; exact hsteps.trans h⟩
  · exact Or.inr ⟨q, vm₁, B, X₁.warmed, X', hpost, hstep₁ _ fun acts => by rw [doInvoke_state]; exact hsteps⟩
end Calls
theorem vx_cls {s : State} {T : State} {vm₁ : Vm} {E : String} {k : ClassId} (hW : s.WarmedH vm₁) (h : (T.setVm vm₁).vm.findClass E = some k) : s.vm.findClass E = some k := by
  have h1 : vm₁.findClass E = some k := h
  rw [hW.alike.findClass] at h1
  exact h1
/-- the method's frame g, with q thrown over it -/
def vx_W (p : Program) (l : Launch) (e : Env) (R : Room) (s : State) (m : MethodId) (args : Array Value) (below : List Frame) (meth : Method) (c : Code) (H : Heap) (locs : List Loc) (cells slots : Nat) (Q : State → Prop) (g : JFrame) (q : Addr) : Prop :=
  ∀ T : State, T.heap = H → Stand p l e R s m args below meth c T locs cells slots → ∃ t, Steps p.tables e below ((T.setTop g).pushFrame (.throwing q)) t ∧ Q t
def vx_Run (p : Program) (l : Launch) (e : Env) (R : Room) (s : State) (m : MethodId) (args : Array Value) (below : List Frame) (meth : Method) (c : Code) (H : Heap) (locs : List Loc) (cells slots mc ms : Nat) (g : JFrame) (rest : List Value) (Qa : State → Outcome → State → Prop) (XC : String → State → State → Prop) (free : Addr → Prop) : Prop :=
  ∀ T : State, T.heap = H → Stand p l e R s m args below meth c T locs cells slots →
    (∃ (v : Option Value) (st₀ t T' : State) (L : List Loc), st₀.heap = H ∧ Stand p l e R s m args below meth c T' (locs ++ L) (cells + mc) (slots + ms) ∧ (∀ q ∈ L, free q.base) ∧ T'.heap = t.heap ∧ T'.vm = t.vm ∧ Qa st₀ (.returned v) t ∧
      Goes p e below T g T' { g with pc := g.pc + 3, stack := v.toList ++ rest }) ∨
    (∃ (q : Addr) (st₀ t T' : State) (L : List Loc) (E : String) (ce : Cell), st₀.heap = H ∧ Stand p l e R s m args below meth c T' (locs ++ L) (cells + mc) (slots + ms) ∧ (∀ z ∈ L, free z.base) ∧ T'.heap = t.heap ∧ T'.vm = t.vm ∧ XC E st₀ t ∧ t.heap[q]? = some ce ∧ ce.vm = .none ∧ s.vm.findClass E = some ce.cls ∧
      Steps p.tables e below (T.setTop g) ((T'.setTop { g with stack := rest }).pushFrame (.throwing q)))
def vx_X {S : Type} (px : S → Prop) (B : String → S → State → Prop) (A : Nat → Prop) : String → State → State → Prop := fun E st t => ∃ u : S, px u ∧ B E u t ∧ va_F A st t
section Runs
variable {p : Program} {l : Launch} {e : Env} {R : Room} {s : State} {m : MethodId} {args : Array Value} {below : List Frame} {meth : Method} {c : Code} {H : Heap} {locs : List Loc} {cells slots : Nat}
variable {y : MethodName} {bytes cc : ByteArray} {maxL nL mc ms n index : Nat} {ret : Option FieldType} {ws : List Cond} {rm : Room} {Pc : Array Value → State → Prop} {Qc : Array Value → State → Outcome → State → Prop} {XC : String → State → State → Prop} {free : Addr → Prop} {Ts : List Cond} {own C : String} {b : Addr} {As rest : List Value} {g : JFrame}
theorem vx_callBack (cb : CallB R s args own index y bytes maxL ret ws rm mc ms n) (hM : vx_Met l y ws rm Pc Qc XC mc ms free) (hbl : FrameBlind Pc) : vx_Back l R p e below s args y 3 8 (PreOf R mc ms Pc) (PostOf Qc mc ms free) (vx_Post XC mc ms free) := by
  obtain ⟨hrc, hrs, hfr, hlo, hws, hcw, -, hini, -⟩ := cb
  exact vx_back (bytes := bytes) (maxL := maxL) (ret := ret) hM hbl hrc hrs hfr hlo hws hcw (fun a' U hW => word_at hW (Or.inl (by first | rfl | simp [Cond.onTables, Cond.keeps, Cond.steady])) hini)
theorem vx_runV (S : CallFix p m c cc nL s args Ts own) (hM : vx_Met l y ws rm Pc Qc XC mc ms free) (cw : CallW R s args own C index y bytes maxL ret ws rm mc ms n) (hp : PreV s H C b Pc As)
    (hg : g.method = m) (hn : As.length = n) (hsize : g.locals.size = nL) (hstack : g.stack = As.reverse ++ .ref b :: rest) (hW : 2 * g.monitorRoom + (rest.map fun v => v.category).sum ≤ 8) (hdg : decode cc g.pc = .ok (.invokevirtual index, 3)) (hf : cells + mc ≤ R.cells ∧ slots + ms ≤ R.slots) :
    vx_Run p l e R s m args below meth c H locs cells slots mc ms g rest (Qc (Value.ref b :: As).toArray) XC free := by
  have hK : vx_Back l R p e below s args y 3 8 (PreOf R mc ms Pc) (PostOf Qc mc ms free) (vx_Post XC mc ms free) := vx_callBack cw.1 hM hp.1
  obtain ⟨⟨-, -, -, -, -, -, hcode, -, hy, hlen, hl⟩, hin, hse⟩ := cw
  obtain ⟨hx, hb, hml, ho, -⟩ := S
  obtain ⟨-, ⟨cellB, hcB, hoB, hclB⟩, hPc⟩ := hp
  intro T hT X
  rcases vx_callV X hx (C := C) (bytes := bytes) (maxL := maxL) (ret := ret) ho hl hin hse hcode hy hK (by rw [hT]; exact hcB) hoB hclB hg (hsize.trans hml.symm) (argsL := As) (rest := rest) (fun sig h => hn.trans (hlen sig h)) hstack hW (by rw [hb]; exact hdg)
    (fun vm₁ hW₁ => ⟨hf.1, hf.2, hPc (T.setVm vm₁) hT hW₁⟩) with ⟨v, vm₁, ⟨U', l2, c2, s2⟩, hW₁, X', ⟨g', mk, t, L, e1, e2, hq, h1, hL, h2, h3⟩, st⟩ | ⟨q, vm₁, ⟨U', l2, c2, s2⟩, hW₁, X', ⟨g', mk, t, L, E, ce, e1, e2, hq, hce, hcv, hcl, h1, hL, h2, h3⟩, st⟩
  · dsimp only [Pt.U, Pt.locs, Pt.cells, Pt.slots] at X' e1 e2 h1 h2 h3 st
    subst h1; subst h2; subst h3
    exact Or.inl ⟨v, (T.setVm vm₁).calling g' mk (Value.ref b :: As).toArray, t, U', L, hT, X', hL, e1, e2, hq, st⟩
  · dsimp only [Pt.U, Pt.locs, Pt.cells, Pt.slots] at X' e1 e2 h1 h2 h3 st hcl
    subst h1; subst h2; subst h3
    exact Or.inr ⟨q, (T.setVm vm₁).calling g' mk (Value.ref b :: As).toArray, t, U', L, E, ce, hT, X', hL, e1, e2, hq, hce, hcv, vx_cls hW₁ hcl, st⟩
theorem vx_runS (S : CallFix p m c cc nL s args Ts own) (hM : vx_Met l y ws rm Pc Qc XC mc ms free) (cw : CallB R s args own index y bytes maxL ret ws rm mc ms n ∧ (Cond.static y).before args s = true) (hp : PreS s H Pc As)
    (hg : g.method = m) (hn : As.length = n) (hsize : g.locals.size = nL) (hstack : g.stack = As.reverse ++ rest) (hW : 2 * g.monitorRoom + (rest.map fun v => v.category).sum ≤ 8) (hdg : decode cc g.pc = .ok (.invokestatic index, 3)) (hf : cells + mc ≤ R.cells ∧ slots + ms ≤ R.slots) :
    vx_Run p l e R s m args below meth c H locs cells slots mc ms g rest (Qc As.toArray) XC free := by
  have hK : vx_Back l R p e below s args y 3 8 (PreOf R mc ms Pc) (PostOf Qc mc ms free) (vx_Post XC mc ms free) := vx_callBack cw.1 hM hp.1
  obtain ⟨⟨-, -, -, -, -, -, hcode, hini, hy, hlen, hl⟩, hstt⟩ := cw
  obtain ⟨hx, hb, hml, ho, -⟩ := S
  intro T hT X
  rcases vx_callS X hx (bytes := bytes) (maxL := maxL) (ret := ret) ho hl hstt hini hcode hy hK hg (hsize.trans hml.symm) (argsL := As) (rest := rest) (fun sig h => hn.trans (hlen sig h)) hstack hW (by rw [hb]; exact hdg)
    (fun vm₁ hW₁ => ⟨hf.1, hf.2, hp.2 (T.setVm vm₁) hT hW₁⟩) with ⟨v, vm₁, ⟨U', l2, c2, s2⟩, hW₁, X', ⟨g', mk, t, L, e1, e2, hq, h1, hL, h2, h3⟩, st⟩ | ⟨q, vm₁, ⟨U', l2, c2, s2⟩, hW₁, X', ⟨g', mk, t, L, E, ce, e1, e2, hq, hce, hcv, hcl, h1, hL, h2, h3⟩, st⟩
  · dsimp only [Pt.U, Pt.locs, Pt.cells, Pt.slots] at X' e1 e2 h1 h2 h3 st
    subst h1; subst h2; subst h3
    exact Or.inl ⟨v, (T.setVm vm₁).calling g' mk As.toArray, t, U', L, hT, X', hL, e1, e2, hq, st⟩
  · dsimp only [Pt.U, Pt.locs, Pt.cells, Pt.slots] at X' e1 e2 h1 h2 h3 st hcl
    subst h1; subst h2; subst h3
    exact Or.inr ⟨q, (T.setVm vm₁).calling g' mk As.toArray, t, U', L, E, ce, hT, X', hL, e1, e2, hq, hce, hcv, vx_cls hW₁ hcl, st⟩
end Runs
section Rows
variable {p : Program} {l : Launch} {e : Env} {R : Room} {s : State} {m : MethodId} {args : Array Value} {below : List Frame} {meth : Method} {c : Code} {H : Heap} {locs : List Loc} {cells slots : Nat} {Q : State → Prop}
variable {mc ms : Nat} {free : Addr → Prop} {A0 A1 : Nat → Prop} {H0 : Heap} {a : Array Value} {pc : Nat} {ls : Array Slot} {st0 rest : List Value}
theorem vx_keep {st₀ t T' : State} {L : List Loc} (h0 : st₀.heap = H) (e1 : T'.heap = t.heap) (hS : va_S A0 H0 H locs) (hA : ∀ q, q < H.size → A1 q → A0 q) (hf : ∀ q, free q → A0 q) (hL : ∀ q ∈ L, free q.base) (hF : va_F A1 st₀ t) :
    H.size ≤ T'.heap.size ∧ (∀ q : Nat, q < H.size → ¬ A1 q → T'.heap[q]? = H[q]?) ∧ va_S A0 H0 T'.heap (locs ++ L) := by
  obtain ⟨hz, hk⟩ := hF
  rw [h0] at hz hk
  exact ⟨by rw [e1]; exact hz, fun q h1 h2 => by rw [e1]; exact hk q h1 h2,
    ⟨Nat.le_trans hS.1 (by rw [e1]; exact hz), fun q h1 h2 => by rw [e1, hk q (Nat.lt_of_lt_of_le h1 hS.1) (fun z => h2 (hA q (Nat.lt_of_lt_of_le h1 hS.1) z))]; exact hS.2.1 q h1 h2, fun q hq => by
      rcases List.mem_append.mp hq with h | h
      · exact hS.2.2 q h
      · exact hf _ (hL q h)⟩⟩
theorem vx_calli {S SX : Type} {post : Int32 → S → Prop} {px : SX → Prop} {B : S → State → Prop} {BX : String → SX → State → Prop} {AX : Nat → Prop} (hr : vx_Run p l e R s m args below meth c H locs cells slots mc ms (F0 m pc ls st0) rest (va_Qi post B A1 a) (vx_X px BX AX) free) (hS : va_S A0 H0 H locs) (hA : ∀ q, q < H.size → A1 q → A0 q) (hf : ∀ q, free q → A0 q) (hAX : ∀ q, q < H.size → AX q → A0 q)
    (kx : ∀ (E : String) (ce : Cell) (q9 : Addr) (u : SX) (t : State) (H1 : Heap) (locs1 : List Loc), t.heap = H1 → s.vm.Alike t.vm → px u → BX E u t → H.size ≤ H1.size → (∀ q : Nat, q < H.size → ¬ AX q → H1[q]? = H[q]?) → va_S A0 H0 H1 locs1 → H1[q9]? = some ce → ce.vm = .none → s.vm.findClass E = some ce.cls → vx_W p l e R s m args below meth c H1 locs1 (cells + mc) (slots + ms) Q (F0 m pc ls rest) q9)
    (kk : ∀ (r : Int32) (u : S) (t : State) (H1 : Heap) (locs1 : List Loc), t.heap = H1 → s.vm.Alike t.vm → post r u → B u t → H.size ≤ H1.size → (∀ q : Nat, q < H.size → ¬ A1 q → H1[q]? = H[q]?) → va_S A0 H0 H1 locs1 → W p l e R s m args below meth c H1 locs1 (cells + mc) (slots + ms) Q (F0 m (pc + 3) ls (.int r :: rest))) : W p l e R s m args below meth c H locs cells slots Q (F0 m pc ls st0) := by
  intro T hT X
  rcases hr T hT X with ⟨v, st₀, t, T', L, h0, X', hL, e1, e2, ⟨⟨r, u, hv, hp, hb⟩, hF⟩, st⟩ | ⟨q, st₀, t, T', L, E, ce, h0, X', hL, e1, e2, ⟨u, hp, hb, hF⟩, hce, hcv, hcl, st⟩
  · cases hv
    obtain ⟨k1, k2, k3⟩ := vx_keep h0 e1 hS hA hf hL hF
    obtain ⟨t2, a1, b1⟩ := kk r u t T'.heap (locs ++ L) e1.symm (by rw [← e2]; exact X'.warmed.alike) hp hb k1 k2 k3 T' rfl X'
    exact ⟨t2, st t2 a1, b1⟩
  · obtain ⟨k1, k2, k3⟩ := vx_keep h0 e1 hS hAX hf hL hF
    obtain ⟨t2, a1, b1⟩ := kx E ce q u t T'.heap (locs ++ L) e1.symm (by rw [← e2]; exact X'.warmed.alike) hp hb k1 k2 k3 (by rw [e1]; exact hce) hcv hcl T' rfl X'
    exact ⟨t2, st.trans a1, b1⟩
theorem vx_calll {S SX : Type} {post : Int64 → S → Prop} {px : SX → Prop} {B : S → State → Prop} {BX : String → SX → State → Prop} {AX : Nat → Prop} (hr : vx_Run p l e R s m args below meth c H locs cells slots mc ms (F0 m pc ls st0) rest (va_Ql post B A1 a) (vx_X px BX AX) free) (hS : va_S A0 H0 H locs) (hA : ∀ q, q < H.size → A1 q → A0 q) (hf : ∀ q, free q → A0 q) (hAX : ∀ q, q < H.size → AX q → A0 q)
    (kx : ∀ (E : String) (ce : Cell) (q9 : Addr) (u : SX) (t : State) (H1 : Heap) (locs1 : List Loc), t.heap = H1 → s.vm.Alike t.vm → px u → BX E u t → H.size ≤ H1.size → (∀ q : Nat, q < H.size → ¬ AX q → H1[q]? = H[q]?) → va_S A0 H0 H1 locs1 → H1[q9]? = some ce → ce.vm = .none → s.vm.findClass E = some ce.cls → vx_W p l e R s m args below meth c H1 locs1 (cells + mc) (slots + ms) Q (F0 m pc ls rest) q9)
    (kk : ∀ (r : Int64) (u : S) (t : State) (H1 : Heap) (locs1 : List Loc), t.heap = H1 → s.vm.Alike t.vm → post r u → B u t → H.size ≤ H1.size → (∀ q : Nat, q < H.size → ¬ A1 q → H1[q]? = H[q]?) → va_S A0 H0 H1 locs1 → W p l e R s m args below meth c H1 locs1 (cells + mc) (slots + ms) Q (F0 m (pc + 3) ls (.long r :: rest))) : W p l e R s m args below meth c H locs cells slots Q (F0 m pc ls st0) := by
  intro T hT X
  rcases hr T hT X with ⟨v, st₀, t, T', L, h0, X', hL, e1, e2, ⟨⟨r, u, hv, hp, hb⟩, hF⟩, st⟩ | ⟨q, st₀, t, T', L, E, ce, h0, X', hL, e1, e2, ⟨u, hp, hb, hF⟩, hce, hcv, hcl, st⟩
  · cases hv
    obtain ⟨k1, k2, k3⟩ := vx_keep h0 e1 hS hA hf hL hF
    obtain ⟨t2, a1, b1⟩ := kk r u t T'.heap (locs ++ L) e1.symm (by rw [← e2]; exact X'.warmed.alike) hp hb k1 k2 k3 T' rfl X'
    exact ⟨t2, st t2 a1, b1⟩
  · obtain ⟨k1, k2, k3⟩ := vx_keep h0 e1 hS hAX hf hL hF
    obtain ⟨t2, a1, b1⟩ := kx E ce q u t T'.heap (locs ++ L) e1.symm (by rw [← e2]; exact X'.warmed.alike) hp hb k1 k2 k3 (by rw [e1]; exact hce) hcv hcl T' rfl X'
    exact ⟨t2, st.trans a1, b1⟩
theorem vx_callf {S SX : Type} {post : UInt32 → S → Prop} {px : SX → Prop} {B : S → State → Prop} {BX : String → SX → State → Prop} {AX : Nat → Prop} (hr : vx_Run p l e R s m args below meth c H locs cells slots mc ms (F0 m pc ls st0) rest (va_Qf post B A1 a) (vx_X px BX AX) free) (hS : va_S A0 H0 H locs) (hA : ∀ q, q < H.size → A1 q → A0 q) (hf : ∀ q, free q → A0 q) (hAX : ∀ q, q < H.size → AX q → A0 q)
    (kx : ∀ (E : String) (ce : Cell) (q9 : Addr) (u : SX) (t : State) (H1 : Heap) (locs1 : List Loc), t.heap = H1 → s.vm.Alike t.vm → px u → BX E u t → H.size ≤ H1.size → (∀ q : Nat, q < H.size → ¬ AX q → H1[q]? = H[q]?) → va_S A0 H0 H1 locs1 → H1[q9]? = some ce → ce.vm = .none → s.vm.findClass E = some ce.cls → vx_W p l e R s m args below meth c H1 locs1 (cells + mc) (slots + ms) Q (F0 m pc ls rest) q9)
    (kk : ∀ (r : UInt32) (u : S) (t : State) (H1 : Heap) (locs1 : List Loc), t.heap = H1 → s.vm.Alike t.vm → post r u → B u t → H.size ≤ H1.size → (∀ q : Nat, q < H.size → ¬ A1 q → H1[q]? = H[q]?) → va_S A0 H0 H1 locs1 → W p l e R s m args below meth c H1 locs1 (cells + mc) (slots + ms) Q (F0 m (pc + 3) ls (.float r :: rest))) : W p l e R s m args below meth c H locs cells slots Q (F0 m pc ls st0) := by
  intro T hT X
  rcases hr T hT X with ⟨v, st₀, t, T', L, h0, X', hL, e1, e2, ⟨⟨r, u, hv, hp, hb⟩, hF⟩, st⟩ | ⟨q, st₀, t, T', L, E, ce, h0, X', hL, e1, e2, ⟨u, hp, hb, hF⟩, hce, hcv, hcl, st⟩
  · cases hv
    obtain ⟨k1, k2, k3⟩ := vx_keep h0 e1 hS hA hf hL hF
    obtain ⟨t2, a1, b1⟩ := kk r u t T'.heap (locs ++ L) e1.symm (by rw [← e2]; exact X'.warmed.alike) hp hb k1 k2 k3 T' rfl X'
    exact ⟨t2, st t2 a1, b1⟩
  · obtain ⟨k1, k2, k3⟩ := vx_keep h0 e1 hS hAX hf hL hF
    obtain ⟨t2, a1, b1⟩ := kx E ce q u t T'.heap (locs ++ L) e1.symm (by rw [← e2]; exact X'.warmed.alike) hp hb k1 k2 k3 (by rw [e1]; exact hce) hcv hcl T' rfl X'
    exact ⟨t2, st.trans a1, b1⟩
theorem vx_calld {S SX : Type} {post : UInt64 → S → Prop} {px : SX → Prop} {B : S → State → Prop} {BX : String → SX → State → Prop} {AX : Nat → Prop} (hr : vx_Run p l e R s m args below meth c H locs cells slots mc ms (F0 m pc ls st0) rest (va_Qd post B A1 a) (vx_X px BX AX) free) (hS : va_S A0 H0 H locs) (hA : ∀ q, q < H.size → A1 q → A0 q) (hf : ∀ q, free q → A0 q) (hAX : ∀ q, q < H.size → AX q → A0 q)
    (kx : ∀ (E : String) (ce : Cell) (q9 : Addr) (u : SX) (t : State) (H1 : Heap) (locs1 : List Loc), t.heap = H1 → s.vm.Alike t.vm → px u → BX E u t → H.size ≤ H1.size → (∀ q : Nat, q < H.size → ¬ AX q → H1[q]? = H[q]?) → va_S A0 H0 H1 locs1 → H1[q9]? = some ce → ce.vm = .none → s.vm.findClass E = some ce.cls → vx_W p l e R s m args below meth c H1 locs1 (cells + mc) (slots + ms) Q (F0 m pc ls rest) q9)
    (kk : ∀ (r : UInt64) (u : S) (t : State) (H1 : Heap) (locs1 : List Loc), t.heap = H1 → s.vm.Alike t.vm → post r u → B u t → H.size ≤ H1.size → (∀ q : Nat, q < H.size → ¬ A1 q → H1[q]? = H[q]?) → va_S A0 H0 H1 locs1 → W p l e R s m args below meth c H1 locs1 (cells + mc) (slots + ms) Q (F0 m (pc + 3) ls (.double r :: rest))) : W p l e R s m args below meth c H locs cells slots Q (F0 m pc ls st0) := by
  intro T hT X
  rcases hr T hT X with ⟨v, st₀, t, T', L, h0, X', hL, e1, e2, ⟨⟨r, u, hv, hp, hb⟩, hF⟩, st⟩ | ⟨q, st₀, t, T', L, E, ce, h0, X', hL, e1, e2, ⟨u, hp, hb, hF⟩, hce, hcv, hcl, st⟩
  · cases hv
    obtain ⟨k1, k2, k3⟩ := vx_keep h0 e1 hS hA hf hL hF
    obtain ⟨t2, a1, b1⟩ := kk r u t T'.heap (locs ++ L) e1.symm (by rw [← e2]; exact X'.warmed.alike) hp hb k1 k2 k3 T' rfl X'
    exact ⟨t2, st t2 a1, b1⟩
  · obtain ⟨k1, k2, k3⟩ := vx_keep h0 e1 hS hAX hf hL hF
    obtain ⟨t2, a1, b1⟩ := kx E ce q u t T'.heap (locs ++ L) e1.symm (by rw [← e2]; exact X'.warmed.alike) hp hb k1 k2 k3 (by rw [e1]; exact hce) hcv hcl T' rfl X'
    exact ⟨t2, st.trans a1, b1⟩
theorem vx_callv {S SX : Type} {post : S → Prop} {px : SX → Prop} {B : S → State → Prop} {BX : String → SX → State → Prop} {AX : Nat → Prop} (hr : vx_Run p l e R s m args below meth c H locs cells slots mc ms (F0 m pc ls st0) rest (va_Qv post B A1 a) (vx_X px BX AX) free) (hS : va_S A0 H0 H locs) (hA : ∀ q, q < H.size → A1 q → A0 q) (hf : ∀ q, free q → A0 q) (hAX : ∀ q, q < H.size → AX q → A0 q)
    (kx : ∀ (E : String) (ce : Cell) (q9 : Addr) (u : SX) (t : State) (H1 : Heap) (locs1 : List Loc), t.heap = H1 → s.vm.Alike t.vm → px u → BX E u t → H.size ≤ H1.size → (∀ q : Nat, q < H.size → ¬ AX q → H1[q]? = H[q]?) → va_S A0 H0 H1 locs1 → H1[q9]? = some ce → ce.vm = .none → s.vm.findClass E = some ce.cls → vx_W p l e R s m args below meth c H1 locs1 (cells + mc) (slots + ms) Q (F0 m pc ls rest) q9)
    (kk : ∀ (u : S) (t : State) (H1 : Heap) (locs1 : List Loc), t.heap = H1 → s.vm.Alike t.vm → post u → B u t → H.size ≤ H1.size → (∀ q : Nat, q < H.size → ¬ A1 q → H1[q]? = H[q]?) → va_S A0 H0 H1 locs1 → W p l e R s m args below meth c H1 locs1 (cells + mc) (slots + ms) Q (F0 m (pc + 3) ls (rest))) : W p l e R s m args below meth c H locs cells slots Q (F0 m pc ls st0) := by
  intro T hT X
  rcases hr T hT X with ⟨v, st₀, t, T', L, h0, X', hL, e1, e2, ⟨⟨u, hv, hp, hb⟩, hF⟩, st⟩ | ⟨q, st₀, t, T', L, E, ce, h0, X', hL, e1, e2, ⟨u, hp, hb, hF⟩, hce, hcv, hcl, st⟩
  · cases hv
    obtain ⟨k1, k2, k3⟩ := vx_keep h0 e1 hS hA hf hL hF
    obtain ⟨t2, a1, b1⟩ := kk u t T'.heap (locs ++ L) e1.symm (by rw [← e2]; exact X'.warmed.alike) hp hb k1 k2 k3 T' rfl X'
    exact ⟨t2, st t2 a1, b1⟩
  · obtain ⟨k1, k2, k3⟩ := vx_keep h0 e1 hS hAX hf hL hF
    obtain ⟨t2, a1, b1⟩ := kx E ce q u t T'.heap (locs ++ L) e1.symm (by rw [← e2]; exact X'.warmed.alike) hp hb k1 k2 k3 (by rw [e1]; exact hce) hcv hcl T' rfl X'
    exact ⟨t2, st.trans a1, b1⟩
/-- caught by the row x of this method's table; the rows ahead don't take it -/
theorem vx_catch {own name : String} {E : String} {ce : Cell} {q : Addr} (hown : s.vm.findClass own = some m.cls) (pre : List ExceptionTableEntry) (x : ExceptionTableEntry) (suf : List ExceptionTableEntry) (hsplit : c.exceptionTable.toList = pre ++ x :: suf)
    (hpass : ∀ z ∈ pre, covers z pc = false ∨ (z.catchType ≠ 0 ∧ ∃ nm : String, (Cond.classLink own z.catchType nm).before args s = true ∧ va_Nc E nm s)) (hx : covers x pc = true) (h0 : x.catchType ≠ 0)
    (hlink : (Cond.classLink own x.catchType name).before args s = true) (hcast : (Cond.castable E name).before args s = true) (hcell : H[q]? = some ce) (hv : ce.vm = .none) (hcl : s.vm.findClass E = some ce.cls)
    (kk : W p l e R s m args below meth c H locs cells slots Q (F0 m x.handlerPc ls [.ref q])) : vx_W p l e R s m args below meth c H locs cells slots Q (F0 m pc ls rest) q := by
  intro T hT X
  have hpl : e.platform.magicAccessors = ({} : Platform).magicAccessors := by rw [X.admits.platform]
  obtain ⟨c3, c4, hc3, hc4, hasg⟩ := Cond.castable_spec hcast
  cases Option.some.inj (hc3.symm.trans hcl)
  obtain ⟨c5, hc5, hcl5⟩ := Cond.classLink_spec hown hlink e.platform hpl
  cases Option.some.inj (hc4.symm.trans hc5)
  obtain ⟨vm', X', st⟩ := X.thenCaughtThrough q (g := F0 m pc ls rest) rfl (Steps.refl _) (by rw [hT]; exact hcell) (by rw [hv]; rfl) (by obtain ⟨k9, h9, -⟩ := Vm.findClass_spec hcl; exact ⟨k9, h9⟩) pre x suf hsplit
    (fun z hz => by
      rcases hpass z hz with h | ⟨hz0, nm, hl1, hn1⟩
      · exact Or.inl h
      · obtain ⟨c6, hc6, hcl6⟩ := Cond.classLink_spec hown hl1 e.platform hpl
        obtain ⟨a8, b8, h1, h2, h3⟩ := hn1
        cases Option.some.inj (h1.symm.trans hcl)
        cases Option.some.inj (h2.symm.trans hc6)
        exact Or.inr ⟨hz0, _, hcl6, h3⟩) hx (Or.inr ⟨h0, c4, hcl5, hasg⟩)
  obtain ⟨t, a1, b1⟩ := kk (T.setVm vm') hT X'
  exact ⟨t, st.trans a1, b1⟩
end Rows
section Ends
variable {p : Program} {l : Launch} {e : Env} {R : Room} {s : State} {m : MethodId} {args : Array Value} {below : List Frame} {meth : Method} {c : Code} {H : Heap} {locs : List Loc} {cells slots : Nat} {Q : State → Prop}
variable {mc ms : Nat} {free : Addr → Prop} {A0 A1 : Nat → Prop} {H0 : Heap} {a : Array Value} {ls : Array Slot} {st0 rest : List Value}
variable {Qc : Array Value → State → Outcome → State → Prop} {XC : String → State → State → Prop}
/-- what a body that may throw owes at its end -/
def vx_MQ (below : List Frame) (Qc : Array Value → State → Outcome → State → Prop) (XC : String → State → State → Prop) (a : Array Value) (s : State) (mc ms : Nat) (free : Addr → Prop) : State → Prop := fun t =>
  ∃ o, t.status = .running ∧ Ended t below o ∧ vx_Q Qc XC mc ms free a s o t
theorem vx_ret {g : JFrame} {mc ms : Nat} (k : W p l e R s m args below meth c H locs cells slots (MQ below Qc args s mc ms free) g) : W p l e R s m args below meth c H locs cells slots (vx_MQ below Qc XC args s mc ms free) g := by
  intro T hT X
  obtain ⟨t, a1, o, b1, b2, b3, b4⟩ := k T hT X
  exact ⟨t, a1, o, b1, b2, Or.inl ⟨b3, b4⟩⟩
/-- not caught here: it goes on to the caller -/
theorem vx_widen {g : JFrame} {q : Addr} {k n : Nat} (h1 : cells ≤ k) (h2 : slots ≤ n) (kk : vx_W p l e R s m args below meth c H locs k n Q g q) : vx_W p l e R s m args below meth c H locs cells slots Q g q := fun T hT X => kk T hT (stand_widen X h1 h2)
theorem vx_out {pc : Nat} {E : String} {ce : Cell} {q : Addr} {mc ms : Nat} (hout : ∀ x ∈ c.exceptionTable.toList, covers x pc = false) (hlocks : meth.locks = false) (hcell : H[q]? = some ce) (hv : ce.vm = .none) (hcl : s.vm.findClass E = some ce.cls)
    (hx : ∀ t : State, t.heap = H → s.vm.Alike t.vm → XC E s t) (hf : ∀ z ∈ locs, free z.base) (hc : cells ≤ mc) (hs : slots ≤ ms) :
    vx_W p l e R s m args below meth c H locs cells slots (vx_MQ below Qc XC args s mc ms free) (F0 m pc ls rest) q := by
  intro T hT X
  obtain ⟨st1, hrun, hend, hW, hsm⟩ := X.leaveThrown q (g := F0 m pc ls rest) rfl rfl rfl hout hlocks
  have hcell9 : (T.setFrames (.throwing q :: below)).heap[q]? = some ce := by
    show T.heap[q]? = some ce
    rw [hT]; exact hcell
  exact ⟨_, st1, .threw q, hrun, hend, Or.inr ⟨q, rfl, E, ce, locs, hx _ hT hW.alike, hcell9, hv, hcl, hW, hsm.mono hc hs, hf⟩⟩
theorem vx_frame {U : State} {k n : Nat} (h : s.sameButNew ({ U with vm := s.vm } : State) locs k n) : s.heap.size ≤ U.heap.size ∧ ∀ q : Nat, q < s.heap.size → (∀ z ∈ locs, z.base ≠ q) → U.heap[q]? = s.heap[q]? := by
  obtain ⟨-, h2, -, -, -, h6⟩ := h
  refine ⟨h2, fun q hq hz => ?_⟩
  obtain ⟨c9, e1, e2, e3, e4⟩ := h6 q _ (Array.getElem?_eq_getElem hq)
  have hs : c9.slots = (s.heap[q]).slots := Array.ext_getElem? fun i => e4 i fun hm => hz _ hm rfl
  have h9 : c9 = s.heap[q] := by
    rw [hs] at e2
    exact e2
  have e5 : U.heap[q]? = some c9 := e1
  rw [e5, h9, Array.getElem?_eq_getElem hq]
/-- the words of a throw but the four that speak of the heap -/
def vx_no (w : Cond) : Bool := decide (w ≠ .isRef (.static Bundle.tN "UNASSIGNED_STACK" Bundle.steD)) && decide (w ≠ .isRef (.static Bundle.tN "SUPPRESSED_SENTINEL" Bundle.listD)) && decide (w ≠ .laysStatic Bundle.tN "UNASSIGNED_STACK" Bundle.steD) && decide (w ≠ .laysStatic Bundle.tN "SUPPRESSED_SENTINEL" Bundle.listD)
def vx_at0 (own : String) (ic : Nat) (X : String) (names : List String) : List Cond := (Bundle.ownAtoms0 own ic X names).filter vx_no
def vx_atS (own : String) (ic : Nat) (X : String) (names : List String) : List Cond := (Bundle.ownAtoms own ic X names).filter vx_no
/-- a word that the tables alone decide, or a good one -/
def vx_ot (w : Cond) : Bool := w.onTables || goodWord w
theorem vx_ot_at {args a' : Array Value} {s U : State} {w : Cond} (hW : s.WarmedH U.vm) (hvm : s.vm = U.vm) (hg : vx_ot w = true) (h : w.before args s = true) : w.before a' U = true := by
  simp only [vx_ot, Bool.or_eq_true] at hg
  rcases hg with hg | hg
  · exact va_tabs hg hvm h
  · exact word_at hW (good_of_word hg) h
/-- a list's words: the good ones out of the method's own list, the others by premises of their own -/
theorem vx_hat {args : Array Value} {s : State} {L B : List Cond} (h1 : ∀ w ∈ L.filter goodWord, w.before args s = true) (h2 : ∀ w ∈ L.filter (fun w => !goodWord w), w ∈ B) (h3 : ∀ w ∈ B, w.before args s = true) : ∀ w ∈ L, w.before args s = true := by
  intro w hw
  by_cases g : goodWord w = true
  · exact h1 w (List.mem_filter.mpr ⟨hw, g⟩)
  · refine h3 w (h2 w (List.mem_filter.mpr ⟨hw, ?_⟩))
    show (!goodWord w) = true
    cases hgw : goodWord w
    · rfl
    · exact absurd hgw g
theorem vx_c {args : Array Value} {s : State} {w : Cond} {B : List Cond} (h : w.before args s = true) (t : ∀ w ∈ B, w.before args s = true) : ∀ w' ∈ w :: B, w'.before args s = true := fun w' h' => (List.mem_cons.mp h').elim (fun e => by rw [e]; exact h) (t w')
theorem vx_n {args : Array Value} {s : State} : ∀ w ∈ ([] : List Cond), w.before args s = true := fun _ h => nomatch h
theorem vx_own {args : Array Value} {s : State} {L : List Cond} (h1 : ∀ w ∈ L.filter vx_no, w.before args s = true)
    (hU : (Cond.isRef (.static Bundle.tN "UNASSIGNED_STACK" Bundle.steD)).before args s = true) (hN : (Cond.isRef (.static Bundle.tN "SUPPRESSED_SENTINEL" Bundle.listD)).before args s = true)
    (lU : (Cond.laysStatic Bundle.tN "UNASSIGNED_STACK" Bundle.steD).before args s = true) (lN : (Cond.laysStatic Bundle.tN "SUPPRESSED_SENTINEL" Bundle.listD).before args s = true) : ∀ w ∈ L, w.before args s = true := by
  intro w hw
  by_cases e1 : w = .isRef (.static Bundle.tN "UNASSIGNED_STACK" Bundle.steD)
  · rw [e1]; exact hU
  · by_cases e2 : w = .isRef (.static Bundle.tN "SUPPRESSED_SENTINEL" Bundle.listD)
    · rw [e2]; exact hN
    · by_cases e3 : w = .laysStatic Bundle.tN "UNASSIGNED_STACK" Bundle.steD
      · rw [e3]; exact lU
      · by_cases e4 : w = .laysStatic Bundle.tN "SUPPRESSED_SENTINEL" Bundle.listD
        · rw [e4]; exact lN
        · exact h1 w (List.mem_filter.mpr ⟨hw, by unfold vx_no; rw [decide_eq_true e1, decide_eq_true e2, decide_eq_true e3, decide_eq_true e4]; rfl⟩)
/-- where a static field lies, its class's statics cell in H -/
def vx_L (C n d : String) (A : Nat → Prop) (U : State) (H : Heap) : Prop := ∃ (c : ClassId) (k : Class) (i : Nat) (f : Field) (a : Nat) (cell : Cell), U.vm.findClass C = some c ∧ U.fieldFound? C n d = some (c, k, i, f) ∧ f.isStatic = true ∧ k.statics = some a ∧ H[a]? = some cell ∧ cell.vm.isStatics = true ∧ cell.cls = c ∧ f.slot < cell.slots.size ∧ k.staticTypes[f.slot]? = some f.type ∧ ¬ A a
theorem vx_L.moved {C n d : String} {A : Nat → Prop} {u U : State} {H : Heap} (hvm : u.vm.Alike U.vm) (h : vx_L C n d A u H) : vx_L C n d A U H := by
  obtain ⟨c, k, i, f, a, cell, h1, h2, h3, h4, h5, h6, h7, h8, h9, h10⟩ := h
  obtain ⟨k', hi', he⟩ := State.fieldFound?_setVm hvm h2
  exact ⟨c, k', i, f, a, cell, by rw [hvm.findClass]; exact h1, hi', h3, by rw [he]; exact h4, h5, h6, h7, h8, by rw [he]; exact h9, h10⟩
theorem vx_L.kept {C n d : String} {A : Nat → Prop} {U : State} {H H1 : Heap} (h : vx_L C n d A U H) (hq : ∀ a : Nat, a < H.size → ¬ A a → H1[a]? = H[a]?) : vx_L C n d A U H1 := by
  obtain ⟨c, k, i, f, a, cell, h1, h2, h3, h4, h5, h6, h7, h8, h9, h10⟩ := h
  exact ⟨c, k, i, f, a, cell, h1, h2, h3, h4, by rw [hq a (Array.getElem?_eq_some_iff.mp h5).1 h10]; exact h5, h6, h7, h8, h9, h10⟩
theorem vx_L.narrow {C n d : String} {A B : Nat → Prop} {U : State} {H : Heap} (h : vx_L C n d A U H) (hAB : ∀ q, B q → A q) : vx_L C n d B U H := by
  obtain ⟨c, k, i, f, a, cell, h1, h2, h3, h4, h5, h6, h7, h8, h9, h10⟩ := h
  exact ⟨c, k, i, f, a, cell, h1, h2, h3, h4, h5, h6, h7, h8, h9, fun z => h10 (hAB _ z)⟩
theorem vx_L.word {C n d : String} {A : Nat → Prop} {s : State} {args : Array Value} (h : vx_L C n d A s s.heap) : (Cond.laysStatic C n d).before args s = true := by
  obtain ⟨c, k, i, f, a, cell, h1, h2, h3, h4, h5, h6, h7, h8, h9, -⟩ := h
  show (Cond.laysStatic C n d).holds args s none s [] = true
  exact Cond.laysStatic_of h1 h2 h3 h4 h5 h6 h7 h8 h9
/-- .. and what it holds: null or some reference -/
def vx_Zq (C n d : String) (A : Nat → Prop) (U : State) (H : Heap) : Prop := va_Zq C n d A U H ∧ vx_L C n d A U H
theorem vx_Zq.moved {C n d : String} {A : Nat → Prop} {u U : State} {H : Heap} (hvm : u.vm.Alike U.vm) (h : vx_Zq C n d A u H) : vx_Zq C n d A U H := ⟨va_Zq.moved hvm h.1, vx_L.moved hvm h.2⟩
theorem vx_Zq.kept {C n d : String} {A : Nat → Prop} {U : State} {H H1 : Heap} (h : vx_Zq C n d A U H) (hq : ∀ a : Nat, a < H.size → ¬ A a → H1[a]? = H[a]?) : vx_Zq C n d A U H1 := ⟨va_Zq.kept h.1 hq, vx_L.kept h.2 hq⟩
theorem vx_Zq.narrow {C n d : String} {A B : Nat → Prop} {U : State} {H : Heap} (h : vx_Zq C n d A U H) (hAB : ∀ q, B q → A q) : vx_Zq C n d B U H := ⟨va_Zq.narrow h.1 hAB, vx_L.narrow h.2 hAB⟩
theorem vx_Zqof {args : Array Value} {s : State} {C n d : String} {A : Nat → Prop} (hl : (Cond.laysStatic C n d).before args s = true) (hini : (Cond.initialized C).before args s = true) (h : (Cond.isRef (.static C n d)).before args s = true) (hA : ∀ a : Nat, a < s.heap.size → ¬ A a) : vx_Zq C n d A s s.heap := by
  refine ⟨va_Zqof hl hini h hA, ?_⟩
  obtain ⟨c, k, i, f, a, cell, h1, h2, h3, h4, h5, h6, h7, h8, h9⟩ := Cond.laysStatic_spec hl
  exact ⟨c, k, i, f, a, cell, h1, h2, h3, h4, h5, h6, h7, h8, h9, hA a (Array.getElem?_eq_some_iff.mp h5).1⟩
theorem vx_isRef {C n d : String} {v : Value} {A : Nat → Prop} {s : State} {args : Array Value} (h : va_Z C n d v A s s.heap) (hv : v.isRef = true) : (Cond.isRef (.static C n d)).before args s = true := by
  obtain ⟨cf, kf, fi, f, a, cell, h1, h2, h3, h4, h5, h6, h7, -⟩ := h
  have he : (Term.static C n d).eval args s none [] s = some v := by
    simp [Term.eval, State.fieldNamed?, h1, h2, h4, h5, h6, h7]
  simp only [Cond.before, Cond.holds, Cond.value, he]
  cases v <;> simp_all [Value.isRef]
theorem vx_isRefq {C n d : String} {A : Nat → Prop} {s : State} {args : Array Value} (h : va_Zq C n d A s s.heap) : (Cond.isRef (.static C n d)).before args s = true := by
  rcases h with h | ⟨t, h⟩
  · exact vx_isRef h rfl
  · exact vx_isRef h rfl
/-- the same frame, seen from here: as if the method were called anew in this heap -/
theorem vx_rebase {T : State} (X : Stand p l e R s m args below meth c T locs cells slots) {R' : Room} (hf : R'.frames ≤ R.frames) (hl : R'.locals ≤ R.locals) (hc : cells + R'.cells ≤ R.cells) (hs : slots + R'.slots ≤ R.slots) :
    Stand p l e R' ((T.setVm s.vm).setFrames (.invoking m args :: below)) m args below meth c T [] 0 0 := by
  have htop : (T.setVm s.vm).topJava?.isSome := X.here.top
  have hF : ((T.setVm s.vm).setFrames (.invoking m args :: below)).frames = .invoking m args :: below := State.frames_setFrames _ (State.cur_lt_of_top htop)
  obtain ⟨g₀, hg0⟩ := Option.isSome_iff_exists.mp htop
  obtain ⟨r, hr⟩ := State.topJava?_eq_some.mp hg0
  have hl9 : e.platform.stackLimits (T.setVm s.vm).me = e.platform.stackLimits s.me := X.limits
  have hb9 : (T.setVm s.vm).me.stackBytes = s.me.stackBytes := X.bytes
  refine ⟨X.admits, X.cas, X.clock, hF, ?_, X.hears, X.method, X.code, X.here, X.tail, X.warmed, ?_, ?_, ?_⟩
  · have h := X.room
    have hU : ((T.setVm s.vm).setFrames (.invoking m args :: below)).localsInUse = s.localsInUse := by
      rw [State.localsInUse_invoking hF (meth := meth) (c := c) X.method X.code, State.localsInUse_invoking X.frames X.method X.code]
    simp only [State.hasRoom, Bool.and_eq_true, decide_eq_true_eq] at h ⊢
    obtain ⟨⟨⟨⟨h1, h2, h3, h4, h5, h6⟩, h7⟩, h8⟩, h9⟩ := h
    rw [X.frames, List.length_cons] at h2 h3
    have q1 := X.heapSize
    have q2 := X.used
    simp only [hF, hU, List.length_cons, State.stackLimits_setFrames, State.stackBytes_setFrames, hl9, hb9]
    refine ⟨⟨⟨⟨by omega, by omega, by omega, by omega, by omega, h6⟩, ?_⟩, ?_⟩, X.book⟩
    · show T.heap.size + R'.cells ≤ e.platform.maxCells
      omega
    · show T.slotsUsed + R'.slots ≤ e.platform.maxSlots
      omega
  · rw [State.stackLimits_setFrames]; rfl
  · rw [State.stackBytes_setFrames]; rfl
  · refine ⟨?_, Nat.le_refl _, Nat.le_refl _, ?_, ?_, fun a c9 h9 => ⟨c9, h9, rfl, rfl, fun _ _ => rfl⟩⟩
    · obtain ⟨t, ht, -⟩ := State.frames_cons hr
      show T.setVm s.vm = { ((T.setVm s.vm).setFrames (.invoking m args :: below)).setFrames (T.setVm s.vm).frames with heap := T.heap, slotsUsed := T.slotsUsed }
      rw [State.setFrames_setFrames, State.setFrames_self ht]
      rfl
    · show T.slotsUsed = T.slotsUsed + ((T.heap.toList.drop T.heap.size).map (·.slots.size)).sum
      rw [List.drop_eq_nil_of_le (Nat.le_of_eq Array.length_toList)]
      rfl
    · show ((T.heap.toList.drop T.heap.size).map (·.slots.size)).sum ≤ 0
      rw [List.drop_eq_nil_of_le (Nat.le_of_eq Array.length_toList)]
      exact Nat.le_refl _
/-- 'throw new E()': new; dup; invokespecial; athrow -/
theorem vx_throw0 {cc : ByteArray} {pc : Nat} (hexec : p.tables.exec = Jvm.exec) (hb : c.code = cc) (hl : l.stackTraces = false) {own cls : String} {names : List String} {ik ic mc ms : Nat} {A : Nat → Prop}
    (hown : s.vm.findClass own = some m.cls) (hcls : Bundle.fit cls = true) (hnames : ∀ n ∈ names, Bundle.fit n = true)
    (hk : (Cond.classLink own ik cls).before args s = true) (hini : (Cond.initialized cls).before args s = true) (hat : ∀ w ∈ vx_at0 own ic cls names, w.before args s = true)
    (hgood : ∀ w ∈ Cond.classLink own ik cls :: Cond.initialized cls :: vx_at0 own ic cls names, vx_ot w = true)
    (hU : vx_Zq Bundle.tN "UNASSIGNED_STACK" Bundle.steD A s s.heap) (hN : vx_Zq Bundle.tN "SUPPRESSED_SENTINEL" Bundle.listD A s s.heap) (hS : va_S A s.heap H locs) (hsize : ls.size = c.maxLocals)
    (d0 : decode cc pc = .ok (.new ik, 3)) (d3 : decode cc (pc + 3) = .ok (.dup, 1)) (d4 : decode cc (pc + 4) = .ok (.invokespecial ic, 3)) (d7 : decode cc (pc + 7) = .ok (.athrow, 1))
    (hout : ∀ x ∈ c.exceptionTable.toList, covers x (pc + 7) = false)
    (hRframes : names.length + 3 < R.frames) (hRlocals : (rest.map fun v => v.category).sum + (13 * (names.length + 1) + 42) ≤ R.locals) (hRcells : cells + 1 ≤ R.cells) (hRslots : slots + 6 ≤ R.slots) (hlocks : meth.locks = false)
    (hx : ∀ t : State, s.vm.Alike t.vm → H.size ≤ t.heap.size → (∀ q : Nat, q < H.size → t.heap[q]? = H[q]?) → XC cls s t)
    (hf : ∀ z ∈ locs, free z.base) (hc : cells + 1 ≤ mc) (hs : slots + 6 ≤ ms) :
    W p l e R s m args below meth c H locs cells slots (vx_MQ below Qc XC args s mc ms free) (F0 m pc ls rest) := by
  intro T hT X
  have htr : e.platform.stackTraces = false := (show e.platform.stackTraces = l.stackTraces by rw [X.admits.platform]).trans hl
  have Y := vx_rebase X (R' := { frames := R.frames, locals := R.locals, cells := 1, slots := 6 }) (Nat.le_refl _) (Nat.le_refl _) hRcells hRslots
  obtain ⟨s', hA⟩ : ∃ z, z = (T.setVm s.vm).setFrames (.invoking m args :: below) := ⟨_, rfl⟩
  rw [← hA] at Y
  have hvm : s'.vm = s.vm := by rw [hA]; rfl
  have hhp : s'.heap = H := by rw [hA]; exact hT
  have hW0 : s.WarmedH s'.vm := by rw [hvm]; exact State.WarmedH.refl s
  have hat' : ∀ w ∈ vx_at0 own ic cls names, w.before args s' = true := fun w hw => vx_ot_at hW0 hvm.symm (hgood w (List.mem_cons_of_mem _ (List.mem_cons_of_mem _ hw))) (hat w hw)
  have hk' : (Cond.classLink own ik cls).before args s' = true := vx_ot_at hW0 hvm.symm (hgood _ List.mem_cons_self) hk
  have hini' : (Cond.initialized cls).before args s' = true := vx_ot_at hW0 hvm.symm (hgood _ (List.mem_cons_of_mem _ List.mem_cons_self)) hini
  have hU' : vx_Zq Bundle.tN "UNASSIGNED_STACK" Bundle.steD A s' s'.heap := by rw [hhp]; exact vx_Zq.moved hW0.alike (hU.kept hS.2.1)
  have hN' : vx_Zq Bundle.tN "SUPPRESSED_SENTINEL" Bundle.listD A s' s'.heap := by rw [hhp]; exact vx_Zq.moved hW0.alike (hN.kept hS.2.1)
  have h : ∀ w ∈ Bundle.ownAtoms0 own ic cls names, w.before args s' = true := vx_own hat' (vx_isRefq hU'.1) (vx_isRefq hN'.1) hU'.2.word hN'.2.word
  have hown' : s'.vm.findClass own = some m.cls := by rw [hvm]; exact hown
  have hins : (Cond.instantiable cls 6).before args s' = true := h _ (by simp [Bundle.ownAtoms0])
  obtain ⟨vm₁, cX, kX, hfX, hkX, -, -, X₁, st1⟩ := Y.newCold hexec (own := own) (C := cls) (index := ik) (n := 6) hown' hk' hins hini'
    (g := F0 m pc ls rest) rfl (by rw [hb]; exact d0) (Nat.le_refl _) (Nat.le_refl _)
  generalize hT1 : (T.setVm vm₁).pushCell { cls := cX, slots := kX.instanceTypes.map defaultValue, vm := .none } = T1 at X₁ st1
  have hcat : (Value.ref T.heap.size).category = 1 := rfl
  have hcellA : T1.heap[T.heap.size]? = some (freshCell cX kX) := by rw [← hT1]; exact State.heap_pushCell_size _ _
  have d3' : decode c.code (pc + 3) = .ok (.dup, 1) := by rw [hb]; exact d3
  obtain ⟨U, hsteps, hrun, hend, hW, hsame, ce, hce, hO⟩ := X₁.ctorThrow0 hexec htr (own := own) (cls := cls) (names := names) (ic := ic) hown' hcls hnames h (fun x hx => nomatch hx) hfX hkX hcellA (by rw [hhp, hT]; exact Nat.le_refl _)
    (g := { method := m, pc := pc + 4, locals := ls, stack := .ref T.heap.size :: .ref T.heap.size :: rest, locked := none }) rfl hsize rfl rfl (rest := rest) rfl
    (by rw [hb]; exact d4) (by rw [hb]; exact d7) hout hRframes (by simp only [List.map_cons, List.sum_cons, hcat]; omega) hlocks
  obtain ⟨f1, f2⟩ := vx_frame hsame
  rw [hhp] at f1 f2
  have hWs : s.WarmedH U.vm := State.WarmedH.trans hW0 hW
  have hcl : s.vm.findClass cls = some ce.cls := by
    have h9 := hO.cls
    rw [hvm] at h9
    exact h9
  have hall : s.sameButNew ({ U with vm := s.vm } : State) locs mc ms := by
    subst hA
    obtain ⟨e1, e2⟩ := hsame
    rw [State.setFrames_setFrames] at e1
    have h2 : (T.setVm s.vm).sameButNew ({ U with vm := s.vm } : State) [] (0 + 1) (0 + 6) := ⟨e1, e2⟩
    have h3 := X.same.trans h2
    rw [List.append_nil] at h3
    exact h3.mono hc hs
  refine ⟨U, ?_, .threw T.heap.size, hrun, hend, Or.inr ⟨T.heap.size, rfl, cls, ce, locs, hx U hWs.alike f1 (fun q hq => f2 q hq (fun z hz => nomatch hz)), hce, hO.vm, hcl, hWs, hall, hf⟩⟩
  refine st1 _ ?_
  show Steps p.tables e below (T1.setTop { method := m, pc := pc + 3, locals := ls, stack := .ref T.heap.size :: rest, locked := none }) _
  jvm_step X₁.here [X₁.here.top, hexec, d3', Value.category]
  exact hsteps
/-- 'throw new E("text")': new; dup; ldc; invokespecial; athrow -/
theorem vx_throwS {cc : ByteArray} {pc : Nat} (hexec : p.tables.exec = Jvm.exec) (hb : c.code = cc) (hl : l.stackTraces = false) {own cls text : String} {names : List String} {ik is ic mc ms sa : Nat} {A : Nat → Prop}
    (hown : s.vm.findClass own = some m.cls) (hcls : Bundle.fit cls = true) (hnames : ∀ n ∈ names, Bundle.fit n = true)
    (hk : (Cond.classLink own ik cls).before args s = true) (hini : (Cond.initialized cls).before args s = true) (hstr : vk_R own is text sa s) (hat : ∀ w ∈ vx_atS own ic cls names, w.before args s = true)
    (hgood : ∀ w ∈ Cond.classLink own ik cls :: Cond.initialized cls :: vx_atS own ic cls names, vx_ot w = true)
    (hU : vx_Zq Bundle.tN "UNASSIGNED_STACK" Bundle.steD A s s.heap) (hN : vx_Zq Bundle.tN "SUPPRESSED_SENTINEL" Bundle.listD A s s.heap) (hS : va_S A s.heap H locs) (hsize : ls.size = c.maxLocals)
    (d0 : decode cc pc = .ok (.new ik, 3)) (d3 : decode cc (pc + 3) = .ok (.dup, 1)) (d4 : decode cc (pc + 4) = .ok (.ldc is, 2)) (d6 : decode cc (pc + 6) = .ok (.invokespecial ic, 3)) (d9 : decode cc (pc + 9) = .ok (.athrow, 1))
    (hout : ∀ x ∈ c.exceptionTable.toList, covers x (pc + 9) = false)
    (hRframes : names.length + 3 < R.frames) (hRlocals : (rest.map fun v => v.category).sum + (13 * (names.length + 1) + 43) ≤ R.locals) (hRcells : cells + 1 ≤ R.cells) (hRslots : slots + 6 ≤ R.slots) (hlocks : meth.locks = false)
    (hx : ∀ t : State, s.vm.Alike t.vm → H.size ≤ t.heap.size → (∀ q : Nat, q < H.size → t.heap[q]? = H[q]?) → XC cls s t)
    (hf : ∀ z ∈ locs, free z.base) (hc : cells + 1 ≤ mc) (hs : slots + 6 ≤ ms) :
    W p l e R s m args below meth c H locs cells slots (vx_MQ below Qc XC args s mc ms free) (F0 m pc ls rest) := by
  intro T hT X
  have htr : e.platform.stackTraces = false := (show e.platform.stackTraces = l.stackTraces by rw [X.admits.platform]).trans hl
  have Y := vx_rebase X (R' := { frames := R.frames, locals := R.locals, cells := 1, slots := 6 }) (Nat.le_refl _) (Nat.le_refl _) hRcells hRslots
  obtain ⟨s', hA⟩ : ∃ z, z = (T.setVm s.vm).setFrames (.invoking m args :: below) := ⟨_, rfl⟩
  rw [← hA] at Y
  have hvm : s'.vm = s.vm := by rw [hA]; rfl
  have hhp : s'.heap = H := by rw [hA]; exact hT
  have hW0 : s.WarmedH s'.vm := by rw [hvm]; exact State.WarmedH.refl s
  have hat' : ∀ w ∈ vx_atS own ic cls names, w.before args s' = true := fun w hw => vx_ot_at hW0 hvm.symm (hgood w (List.mem_cons_of_mem _ (List.mem_cons_of_mem _ hw))) (hat w hw)
  have hk' : (Cond.classLink own ik cls).before args s' = true := vx_ot_at hW0 hvm.symm (hgood _ List.mem_cons_self) hk
  have hini' : (Cond.initialized cls).before args s' = true := vx_ot_at hW0 hvm.symm (hgood _ (List.mem_cons_of_mem _ List.mem_cons_self)) hini
  have hU' : vx_Zq Bundle.tN "UNASSIGNED_STACK" Bundle.steD A s' s'.heap := by rw [hhp]; exact vx_Zq.moved hW0.alike (hU.kept hS.2.1)
  have hN' : vx_Zq Bundle.tN "SUPPRESSED_SENTINEL" Bundle.listD A s' s'.heap := by rw [hhp]; exact vx_Zq.moved hW0.alike (hN.kept hS.2.1)
  have h : ∀ w ∈ Bundle.ownAtoms own ic cls names, w.before args s' = true := vx_own hat' (vx_isRefq hU'.1) (vx_isRefq hN'.1) hU'.2.word hN'.2.word
  have hown' : s'.vm.findClass own = some m.cls := by rw [hvm]; exact hown
  have hins : (Cond.instantiable cls 6).before args s' = true := h _ (by simp [Bundle.ownAtoms])
  obtain ⟨vm₁, cX, kX, hfX, hkX, -, -, X₁, st1⟩ := Y.newCold hexec (own := own) (C := cls) (index := ik) (n := 6) hown' hk' hins hini'
    (g := F0 m pc ls rest) rfl (by rw [hb]; exact d0) (Nat.le_refl _) (Nat.le_refl _)
  generalize hT1 : (T.setVm vm₁).pushCell { cls := cX, slots := kX.instanceTypes.map defaultValue, vm := .none } = T1 at X₁ st1
  have hcat : (Value.ref T.heap.size).category = 1 := rfl
  have hcellA : T1.heap[T.heap.size]? = some (freshCell cX kX) := by rw [← hT1]; exact State.heap_pushCell_size _ _
  have d3' : decode c.code (pc + 3) = .ok (.dup, 1) := by rw [hb]; exact d3
  have d4' : decode c.code (pc + 4) = .ok (.ldc is, 2) := by rw [hb]; exact d4
  have hstr' : vk_R own is text sa s' := vk_R.warm hW0 hstr
  obtain ⟨U, hsteps, hrun, hend, hW, hsame, ce, hce, hO⟩ := X₁.ctorThrowS hexec htr (own := own) (cls := cls) (names := names) (ic := ic) hown' hcls hnames h (fun x hx => nomatch hx) hfX hkX hcellA (by rw [hhp, hT]; exact Nat.le_refl _) (msg := .ref sa) rfl
    (g := { method := m, pc := pc + 6, locals := ls, stack := .ref sa :: .ref T.heap.size :: .ref T.heap.size :: rest, locked := none }) rfl hsize rfl rfl (rest := rest) rfl
    (by rw [hb]; exact d6) (by rw [hb]; exact d9) hout hRframes (by simp only [List.map_cons, List.sum_cons, hcat]; omega) hlocks
  obtain ⟨f1, f2⟩ := vx_frame hsame
  rw [hhp] at f1 f2
  have hWs : s.WarmedH U.vm := State.WarmedH.trans hW0 hW
  have hcl : s.vm.findClass cls = some ce.cls := by
    have h9 := hO.cls
    rw [hvm] at h9
    exact h9
  have hall : s.sameButNew ({ U with vm := s.vm } : State) locs mc ms := by
    subst hA
    obtain ⟨e1, e2⟩ := hsame
    rw [State.setFrames_setFrames] at e1
    have h2 : (T.setVm s.vm).sameButNew ({ U with vm := s.vm } : State) [] (0 + 1) (0 + 6) := ⟨e1, e2⟩
    have h3 := X.same.trans h2
    rw [List.append_nil] at h3
    exact h3.mono hc hs
  refine ⟨U, ?_, .threw T.heap.size, hrun, hend, Or.inr ⟨T.heap.size, rfl, cls, ce, locs, hx U hWs.alike f1 (fun q hq => f2 q hq (fun z hz => nomatch hz)), hce, hO.vm, hcl, hWs, hall, hf⟩⟩
  refine st1 _ ?_
  show Steps p.tables e below (T1.setTop { method := m, pc := pc + 3, locals := ls, stack := .ref T.heap.size :: rest, locked := none }) _
  jvm_step X₁.here [X₁.here.top, hexec, d3', Value.category]
  exact X₁.ldcString hexec (own := own) (text := text) (index := is) (a := sa) hown' hstr'.1 hstr'.2
    (g := { method := m, pc := pc + 4, locals := ls, stack := .ref T.heap.size :: .ref T.heap.size :: rest, locked := none }) rfl d4' _ hsteps
/-- 'throw new E("text")', the text by a wide index -/
theorem vx_throwSW {cc : ByteArray} {pc : Nat} (hexec : p.tables.exec = Jvm.exec) (hb : c.code = cc) (hl : l.stackTraces = false) {own cls text : String} {names : List String} {ik is ic mc ms sa : Nat} {A : Nat → Prop}
    (hown : s.vm.findClass own = some m.cls) (hcls : Bundle.fit cls = true) (hnames : ∀ n ∈ names, Bundle.fit n = true)
    (hk : (Cond.classLink own ik cls).before args s = true) (hini : (Cond.initialized cls).before args s = true) (hstr : vk_R own is text sa s) (hat : ∀ w ∈ vx_atS own ic cls names, w.before args s = true)
    (hgood : ∀ w ∈ Cond.classLink own ik cls :: Cond.initialized cls :: vx_atS own ic cls names, vx_ot w = true)
    (hU : vx_Zq Bundle.tN "UNASSIGNED_STACK" Bundle.steD A s s.heap) (hN : vx_Zq Bundle.tN "SUPPRESSED_SENTINEL" Bundle.listD A s s.heap) (hS : va_S A s.heap H locs) (hsize : ls.size = c.maxLocals)
    (d0 : decode cc pc = .ok (.new ik, 3)) (d3 : decode cc (pc + 3) = .ok (.dup, 1)) (d4 : decode cc (pc + 4) = .ok (.ldc_w is, 3)) (d7 : decode cc (pc + 7) = .ok (.invokespecial ic, 3)) (d10 : decode cc (pc + 10) = .ok (.athrow, 1))
    (hout : ∀ x ∈ c.exceptionTable.toList, covers x (pc + 10) = false)
    (hRframes : names.length + 3 < R.frames) (hRlocals : (rest.map fun v => v.category).sum + (13 * (names.length + 1) + 43) ≤ R.locals) (hRcells : cells + 1 ≤ R.cells) (hRslots : slots + 6 ≤ R.slots) (hlocks : meth.locks = false)
    (hx : ∀ t : State, s.vm.Alike t.vm → H.size ≤ t.heap.size → (∀ q : Nat, q < H.size → t.heap[q]? = H[q]?) → XC cls s t)
    (hf : ∀ z ∈ locs, free z.base) (hc : cells + 1 ≤ mc) (hs : slots + 6 ≤ ms) :
    W p l e R s m args below meth c H locs cells slots (vx_MQ below Qc XC args s mc ms free) (F0 m pc ls rest) := by
  intro T hT X
  have htr : e.platform.stackTraces = false := (show e.platform.stackTraces = l.stackTraces by rw [X.admits.platform]).trans hl
  have Y := vx_rebase X (R' := { frames := R.frames, locals := R.locals, cells := 1, slots := 6 }) (Nat.le_refl _) (Nat.le_refl _) hRcells hRslots
  obtain ⟨s', hA⟩ : ∃ z, z = (T.setVm s.vm).setFrames (.invoking m args :: below) := ⟨_, rfl⟩
  rw [← hA] at Y
  have hvm : s'.vm = s.vm := by rw [hA]; rfl
  have hhp : s'.heap = H := by rw [hA]; exact hT
  have hW0 : s.WarmedH s'.vm := by rw [hvm]; exact State.WarmedH.refl s
  have hat' : ∀ w ∈ vx_atS own ic cls names, w.before args s' = true := fun w hw => vx_ot_at hW0 hvm.symm (hgood w (List.mem_cons_of_mem _ (List.mem_cons_of_mem _ hw))) (hat w hw)
  have hk' : (Cond.classLink own ik cls).before args s' = true := vx_ot_at hW0 hvm.symm (hgood _ List.mem_cons_self) hk
  have hini' : (Cond.initialized cls).before args s' = true := vx_ot_at hW0 hvm.symm (hgood _ (List.mem_cons_of_mem _ List.mem_cons_self)) hini
  have hU' : vx_Zq Bundle.tN "UNASSIGNED_STACK" Bundle.steD A s' s'.heap := by rw [hhp]; exact vx_Zq.moved hW0.alike (hU.kept hS.2.1)
  have hN' : vx_Zq Bundle.tN "SUPPRESSED_SENTINEL" Bundle.listD A s' s'.heap := by rw [hhp]; exact vx_Zq.moved hW0.alike (hN.kept hS.2.1)
  have h : ∀ w ∈ Bundle.ownAtoms own ic cls names, w.before args s' = true := vx_own hat' (vx_isRefq hU'.1) (vx_isRefq hN'.1) hU'.2.word hN'.2.word
  have hown' : s'.vm.findClass own = some m.cls := by rw [hvm]; exact hown
  have hins : (Cond.instantiable cls 6).before args s' = true := h _ (by simp [Bundle.ownAtoms])
  obtain ⟨vm₁, cX, kX, hfX, hkX, -, -, X₁, st1⟩ := Y.newCold hexec (own := own) (C := cls) (index := ik) (n := 6) hown' hk' hins hini'
    (g := F0 m pc ls rest) rfl (by rw [hb]; exact d0) (Nat.le_refl _) (Nat.le_refl _)
  generalize hT1 : (T.setVm vm₁).pushCell { cls := cX, slots := kX.instanceTypes.map defaultValue, vm := .none } = T1 at X₁ st1
  have hcat : (Value.ref T.heap.size).category = 1 := rfl
  have hcellA : T1.heap[T.heap.size]? = some (freshCell cX kX) := by rw [← hT1]; exact State.heap_pushCell_size _ _
  have d3' : decode c.code (pc + 3) = .ok (.dup, 1) := by rw [hb]; exact d3
  have d4' : decode c.code (pc + 4) = .ok (.ldc_w is, 3) := by rw [hb]; exact d4
  have hstr' : vk_R own is text sa s' := vk_R.warm hW0 hstr
  obtain ⟨U, hsteps, hrun, hend, hW, hsame, ce, hce, hO⟩ := X₁.ctorThrowS hexec htr (own := own) (cls := cls) (names := names) (ic := ic) hown' hcls hnames h (fun x hx => nomatch hx) hfX hkX hcellA (by rw [hhp, hT]; exact Nat.le_refl _) (msg := .ref sa) rfl
    (g := { method := m, pc := pc + 7, locals := ls, stack := .ref sa :: .ref T.heap.size :: .ref T.heap.size :: rest, locked := none }) rfl hsize rfl rfl (rest := rest) rfl
    (by rw [hb]; exact d7) (by rw [hb]; exact d10) hout hRframes (by simp only [List.map_cons, List.sum_cons, hcat]; omega) hlocks
  obtain ⟨f1, f2⟩ := vx_frame hsame
  rw [hhp] at f1 f2
  have hWs : s.WarmedH U.vm := State.WarmedH.trans hW0 hW
  have hcl : s.vm.findClass cls = some ce.cls := by
    have h9 := hO.cls
    rw [hvm] at h9
    exact h9
  have hall : s.sameButNew ({ U with vm := s.vm } : State) locs mc ms := by
    subst hA
    obtain ⟨e1, e2⟩ := hsame
    rw [State.setFrames_setFrames] at e1
    have h2 : (T.setVm s.vm).sameButNew ({ U with vm := s.vm } : State) [] (0 + 1) (0 + 6) := ⟨e1, e2⟩
    have h3 := X.same.trans h2
    rw [List.append_nil] at h3
    exact h3.mono hc hs
  refine ⟨U, ?_, .threw T.heap.size, hrun, hend, Or.inr ⟨T.heap.size, rfl, cls, ce, locs, hx U hWs.alike f1 (fun q hq => f2 q hq (fun z hz => nomatch hz)), hce, hO.vm, hcl, hWs, hall, hf⟩⟩
  refine st1 _ ?_
  show Steps p.tables e below (T1.setTop { method := m, pc := pc + 3, locals := ls, stack := .ref T.heap.size :: rest, locked := none }) _
  jvm_step X₁.here [X₁.here.top, hexec, d3', Value.category]
  exact X₁.ldcStringW hexec (own := own) (text := text) (index := is) (a := sa) hown' hstr'.1 hstr'.2
    (g := { method := m, pc := pc + 4, locals := ls, stack := .ref T.heap.size :: .ref T.heap.size :: rest, locked := none }) rfl d4' _ hsteps
end Ends
section Bodies
variable {l : Launch}
theorem vx_ofW {y : MethodName} {ws ws' : List Cond} {rm : Room} {Pc : Array Value → State → Prop} {Qc : Array Value → State → Outcome → State → Prop} {XC : String → State → State → Prop} {mc ms : Nat} {free : Addr → Prop} {cc : ByteArray} {maxL : Nat} {ret : Option FieldType}
    (hy : plainName y.cls = true) (hw : ws = Cond.code y cc maxL ret :: ws')
    (body : ∀ p e s m args below meth c s₁, BodyLoose p l y (headSpec ws rm) cc maxL ret e s m args below meth c s₁ → c.maxLocals = maxL → (∀ x ∈ c.exceptionTable.toList, False) → Pc args s →
      W p l e (headSpec ws rm).room s m args below meth c s.heap [] 0 0 (vx_MQ below Qc XC args s mc ms free) (entryFrame m args maxL)) : vx_Met l y ws rm Pc Qc XC mc ms free := by
  refine MetFree.of_bodyS (code := cc) (maxLocals := maxL) (ret := ret) hy ?_ ?_
  · intro args s m h hn
    obtain ⟨meth, c, h1, h2, h3, h4, h5, h6, -, -⟩ := Cond.code_spec hn (atoms_spec (ws := ws) h _ (by rw [hw]; exact List.mem_cons_self))
    exact ⟨meth, c, h1, h2, h3, h4, h5, h6⟩
  · intro p e s m args below meth c s₁ B hml hP _
    have hh0 : s₁.heap = s.heap := by rw [B.state]; rfl
    have ht : ∀ x ∈ c.exceptionTable.toList, False := by
      obtain ⟨meth9, c9, h1, h2, -, -, -, -, h7, -⟩ := Cond.code_spec B.named (atoms_spec (ws := ws) B.pre _ (by rw [hw]; exact List.mem_cons_self))
      cases Option.some.inj (h1.symm.trans B.method)
      cases Option.some.inj (h2.symm.trans (Stand.of_body B).code)
      intro x hx
      rw [Array.isEmpty_iff.mp h7] at hx
      cases hx
    obtain ⟨t, a1, o, b1, b2, b3⟩ := body p e s m args below meth c s₁ B hml ht hP s₁ hh0 (Stand.of_body B)
    exact ⟨t, o, a1, b1, b2, b3⟩
/-- the table of a body with handlers -/
theorem vx_table {p : Program} {x y : MethodName} {S : Spec} {cc bytes : ByteArray} {maxL maxL' : Nat} {ret ret' : Option FieldType} {e : Env} {s s₁ : State} {m : MethodId} {args : Array Value} {below : List Frame} {meth : Method} {c : Code} {hh : List (Nat × Nat × Nat × Nat)}
    (B : BodyLoose p l y S cc maxL ret e s m args below meth c s₁) (h : (Cond.codeWith y bytes maxL' ret' hh).before args s = true) : c.exceptionTable.toList = tableOf hh := by
  obtain ⟨m9, meth9, c9, hn9, h1, h2, -, -, h6, -⟩ := Cond.codeWith_spec h
  cases Option.some.inj (hn9.symm.trans B.named)
  cases Option.some.inj (h1.symm.trans B.method)
  cases Option.some.inj (h2.symm.trans (Stand.of_body B).code)
  rw [← h6, table_eq]
end Bodies
end VXA
/-! ===== END ===== -/
/-! ===== BEGIN a static call of a method with an exception table ===== -/
section VXS
variable {p : Program} {l : Launch} {e : Env} {R : Room} {s : State} {m : MethodId} {args : Array Value} {below : List Frame} {meth : Method} {c : Code} {T : State} {H : Heap} {locs : List Loc} {cells slots : Nat}
abbrev vx_CSW (R : Room) (s : State) (args : Array Value) (own : String) (index : Nat) (y : MethodName) (bytes : ByteArray) (maxL : Nat) (ret : Option FieldType) (hh : List (Nat × Nat × Nat × Nat)) (ws : List Cond) (rm : Room) (mc ms n : Nat) : Prop :=
  (rm.cells = mc ∧ rm.slots = ms ∧ rm.frames + 1 ≤ R.frames ∧ 8 + (maxL + 11) + rm.locals ≤ R.locals ∧ (∀ w ∈ ws, ∀ (a' : Array Value) (U : State), s.WarmedH U.vm → w.before a' U = true) ∧ Cond.codeWith y bytes maxL ret hh ∈ ws) ∧
  (Cond.codeWith y bytes maxL ret hh).before args s = true ∧ (Cond.initialized y.cls).before args s = true ∧ (y.cls ≠ "java/lang/invoke/MethodHandle" ∧ y.cls ≠ "java/lang/invoke/VarHandle") ∧
  (∀ sig, parseMethodDescriptor y.desc = some sig → n = sig.parameters.length) ∧ (Cond.methodLink own index y).before args s = true ∧ (Cond.static y).before args s = true
theorem vx_cwSW {own : String} {index maxL mc ms : Nat} {y : MethodName} {bytes : ByteArray} {ret : Option FieldType} {hh : List (Nat × Nat × Nat × Nat)} {Ts ws ws' : List Cond} {rm : Room} (n : Nat) (ht : ∀ w ∈ Ts, w.before args s = true) (hT : GoodIn Ts (va_wsS own index y ws)) (hw : ws = Cond.codeWith y bytes maxL ret hh :: ws') (hrc : rm.cells = mc) (hrs : rm.slots = ms)
    (hd : y.cls ≠ "java/lang/invoke/MethodHandle" ∧ y.cls ≠ "java/lang/invoke/VarHandle" ∧ (parseMethodDescriptor y.desc).map (fun d => d.parameters.length) = some n) (hR : rm.frames + 1 ≤ R.frames ∧ 8 + (maxL + 11) + rm.locals ≤ R.locals) :
    vx_CSW R s args own index y bytes maxL ret hh ws rm mc ms n := by
  have ok : ∀ w ∈ va_wsS own index y ws, w.before args s = true := fun w h => ht w (hT w h).1
  have hG : GoodIn Ts ws := fun w h => hT w (by unfold va_wsS; exact List.mem_append_right _ h)
  have hc : Cond.codeWith y bytes maxL ret hh ∈ ws := by rw [hw]; exact List.mem_cons_self
  refine ⟨⟨hrc, hrs, hR.1, hR.2, pay_in ht hG, hc⟩, ht _ (hG _ hc).1, ok _ (by simp [va_wsS]), ⟨hd.1, hd.2.1⟩, fun sig h => ?_, ok _ (by simp [va_wsS]), ok _ (by simp [va_wsS])⟩
  have h2 := hd.2.2
  rw [h] at h2
  exact (Option.some.inj h2).symm
theorem vx_callSW (X : Stand p l e R s m args below meth c T locs cells slots) (hexec : p.tables.exec = Jvm.exec) {own : String} {index : Nat} {y : MethodName} {bytes : ByteArray} {maxL : Nat} {ret : Option FieldType} {hh : List (Nat × Nat × Nat × Nat)}
    (hown : s.vm.findClass own = some m.cls) (hlink : (Cond.methodLink own index y).before args s = true) (hstat : (Cond.static y).before args s = true) (hinit : (Cond.initialized y.cls).before args s = true)
    (hcode : (Cond.codeWith y bytes maxL ret hh).before args s = true) (hy : y.cls ≠ "java/lang/invoke/MethodHandle" ∧ y.cls ≠ "java/lang/invoke/VarHandle")
    {W9 : Nat} {Pre : Pt → Array Value → Prop} {Post : Pt → Array Value → Option Value → Pt → Prop} (hK : Back l R p e below s args y 3 W9 Pre Post)
    {g : JFrame} (hg : g.method = m) (hsize : g.locals.size = c.maxLocals) {argsL rest : List Value} (hlen : ∀ sig, parseMethodDescriptor y.desc = some sig → argsL.length = sig.parameters.length)
    (hstack : g.stack = argsL.reverse ++ rest) (hW : 2 * g.monitorRoom + (rest.map fun v => v.category).sum ≤ W9) (hdg : decode c.code g.pc = .ok (.invokestatic index, 3))
    (hpre : ∀ vm₁, s.WarmedH vm₁ → Pre ⟨T.setVm vm₁, locs, cells, slots⟩ argsL.toArray) :
    ∃ (v : Option Value) (vm₁ : Vm) (B : Pt), s.WarmedH vm₁ ∧ Stand p l e R s m args below meth c B.U B.locs B.cells B.slots ∧ Post ⟨T.setVm vm₁, locs, cells, slots⟩ argsL.toArray v B ∧
      ∀ target, Steps p.tables e below (B.U.setTop { g with pc := g.pc + 3, stack := v.toList ++ rest }) target → Steps p.tables e below (T.setTop g) target := by
  obtain ⟨mk, methM, cM, hnamed, hmethM, -, -, -, -, -, -, hsigM⟩ := Cond.codeWith_spec hcode
  have hstatic : methM.isStatic = true := Cond.static_spec hnamed hmethM hstat
  obtain ⟨kP, hkP, -⟩ := className_of_methodNamed hnamed
  have hinitP : kP.init = .initialized := Cond.initialized_spec (findClass_of_methodNamed hnamed) hkP hinit
  obtain ⟨vm₁, X₁, hstep₁⟩ := X.invokestatic hexec hown hlink hnamed hmethM hstatic hkP hinitP hy (g := g) hg (argsL := argsL) (rest := rest) (hlen _ hsigM) hstack hdg
  obtain ⟨v, B, X', hpost, hsteps⟩ := hK m meth c ⟨T.setVm vm₁, locs, cells, slots⟩ { g with stack := rest } (.invokestatic index) mk argsL.toArray X₁ hg hsize hdg hW (X₁.named hnamed) (hpre vm₁ X₁.warmed)
  exact ⟨v, vm₁, B, X₁.warmed, X', hpost, fun target h => hstep₁ _ fun acts => by rw [doInvoke_state]; exact hsteps.trans h⟩
theorem vx_runSW {y : MethodName} {bytes cc : ByteArray} {maxL nL mc ms n index : Nat} {ret : Option FieldType} {hh : List (Nat × Nat × Nat × Nat)} {ws : List Cond} {rm : Room} {Pc : Array Value → State → Prop} {Qc : Array Value → State → Outcome → State → Prop} {free : Addr → Prop} {Ts : List Cond} {own : String} {As rest : List Value} {g : JFrame}
    (S : CallFix p m c cc nL s args Ts own) (hM : Met l y ws rm Pc Qc mc ms free) (cw : vx_CSW R s args own index y bytes maxL ret hh ws rm mc ms n) (hp : PreS s H Pc As)
    (hg : g.method = m) (hn : As.length = n) (hsize : g.locals.size = nL) (hstack : g.stack = As.reverse ++ rest) (hW : 2 * g.monitorRoom + (rest.map fun v => v.category).sum ≤ 8) (hdg : decode cc g.pc = .ok (.invokestatic index, 3)) (hf : cells + mc ≤ R.cells ∧ slots + ms ≤ R.slots) :
    va_Run p l e R s m args below meth c H locs cells slots mc ms g rest (Qc As.toArray) (free) := by
  obtain ⟨⟨hrc, hrs, hfr, hlo, hws, hcw⟩, hcode, hini, hy, hlen, hl, hstt⟩ := cw
  have hK : Back l R p e below s args y 3 8 (PreOf R mc ms Pc) (PostOf Qc mc ms free) := va_backW (hh := hh) (bytes := bytes) (maxL := maxL) (ret := ret) hM hp.1 hrc hrs hfr hlo hws hcw (fun a' U hW => word_at hW (Or.inl (by first | rfl | simp [Cond.onTables, Cond.keeps, Cond.steady])) hini)
  obtain ⟨hx, hb, hml, ho, -⟩ := S
  intro T hT X
  obtain ⟨v, vm₁, ⟨U', l2, c2, s2⟩, hW₁, X', ⟨g', mk, t, L, e1, e2, hq, h1, hL, h2, h3⟩, st⟩ := vx_callSW X hx (hh := hh) (bytes := bytes) (maxL := maxL) (ret := ret) ho hl hstt hini hcode hy hK hg (hsize.trans hml.symm) (argsL := As) (rest := rest) (fun sig h => hn.trans (hlen sig h)) hstack hW (by rw [hb]; exact hdg)
    (fun vm₁ hW₁ => ⟨hf.1, hf.2, hp.2 (T.setVm vm₁) hT hW₁⟩)
  dsimp only [Pt.U, Pt.locs, Pt.cells, Pt.slots] at X' e1 e2 h1 h2 h3 st
  subst h1; subst h2; subst h3
  exact ⟨v, (T.setVm vm₁).calling g' mk As.toArray, t, U', L, hT, X', hL, e1, e2, hq, st⟩
/-- not caught here, past rows that name other classes: it goes on to the caller -/
theorem vx_outP {p : Program} {l : Launch} {e : Env} {R : Room} {s : State} {m : MethodId} {args : Array Value} {below : List Frame} {meth : Method} {c : Code} {H : Heap} {locs : List Loc} {cells slots : Nat} {free : Addr → Prop} {ls : Array Slot} {rest : List Value} {Qc : Array Value → State → Outcome → State → Prop} {XC : String → State → State → Prop}
    {pc : Nat} {own E : String} {ce : Cell} {q : Addr} {mc ms : Nat} (hown : s.vm.findClass own = some m.cls) (hlocks : meth.locks = false)
    (hpass : ∀ z ∈ c.exceptionTable.toList, covers z pc = false ∨ (z.catchType ≠ 0 ∧ ∃ nm : String, (Cond.classLink own z.catchType nm).before args s = true ∧ va_Nc E nm s)) (hcell : H[q]? = some ce) (hv : ce.vm = .none) (hcl : s.vm.findClass E = some ce.cls)
    (hx : ∀ t : State, t.heap = H → s.vm.Alike t.vm → XC E s t) (hf : ∀ z ∈ locs, free z.base) (hc : cells ≤ mc) (hs : slots ≤ ms) :
    vx_W p l e R s m args below meth c H locs cells slots (vx_MQ below Qc XC args s mc ms free) (F0 m pc ls rest) q := by
  intro T hT X
  have hpl : e.platform.magicAccessors = ({} : Platform).magicAccessors := by rw [X.admits.platform]
  obtain ⟨vm', hW', X', st⟩ := X.outThrough hlocks q (g := F0 m pc ls rest) rfl rfl rfl (cell := ce) (by rw [hT]; exact hcell) (by rw [hv]; rfl)
    (by obtain ⟨k9, h9, -⟩ := Vm.findClass_spec hcl; exact ⟨k9, h9⟩) (fun z hz => by
      rcases hpass z hz with h | ⟨hz0, nm, hl1, hn1⟩
      · exact Or.inl h
      · obtain ⟨c6, hc6, hcl6⟩ := Cond.classLink_spec hown hl1 e.platform hpl
        obtain ⟨a8, b8, h1, h2, h3⟩ := hn1
        cases Option.some.inj (h1.symm.trans hcl)
        cases Option.some.inj (h2.symm.trans hc6)
        exact Or.inr ⟨hz0, _, hcl6, h3⟩)
  obtain ⟨g₀, hfr⟩ := X'.frames_eq
  have hcell9 : ((T.setVm vm').setFrames (.throwing q :: below)).heap[q]? = some ce := by
    show T.heap[q]? = some ce
    rw [hT]; exact hcell
  have hend : Ended ((T.setVm vm').setFrames (.throwing q :: below)) below (.threw q) := State.frames_setFrames _ (State.cur_lt_of_frames hfr)
  refine ⟨(T.setVm vm').setFrames (.throwing q :: below), ?_, .threw q, X'.here.running, hend, Or.inr ⟨q, rfl, E, ce, locs, hx _ hT (X'.ends _).1.alike, hcell9, hv, hcl, (X'.ends _).1, (X'.ends _).2.mono hc hs, hf⟩⟩
  rw [X.pushThrowing_eq]
  exact st
/-- a thing of a world lies in the heap -/
theorem vx_lt {D : va_G} {cl : List vw_C} {ws : va_W} {H1 : Heap} (h : va_P D cl ws H1) {k : Nat} {q : Nat × va_E} (hk : ws[k]? = some q) : q.1 < H1.size := (h k q hk).lt
end VXS
/-! ===== END ===== -/
/-! ===== BEGIN methods with a table of their own: called by a name, returning or throwing ===== -/
section VXH
/-! vx_backW, vx_callVX, vx_callSX, vx_callVW, vx_runVW, vx_runVX, vx_runSX, vx_ofWH follow the same proofs as their sisters above (Free/Laws.lean, Shelf42/LK1.lean); vx_outP calls Shelf42/NT130.lean (outThrough). -/
section
variable {l : Launch} {R : Room} {p : Program} {e : Env} {below : List Frame} {s : State} {sargs : Array Value} {y : MethodName} {len W9 : Nat}
theorem vx_backW {ws : List Cond} {rm : Room} {Pc : Array Value → State → Prop} {Qc : Array Value → State → Outcome → State → Prop} {XC : String → State → State → Prop} {mc ms : Nat} {free : Addr → Prop} {bytes : ByteArray} {maxL : Nat} {ret : Option FieldType} {hh : List (Nat × Nat × Nat × Nat)}
    (hM : vx_Met l y ws rm Pc Qc XC mc ms free) (hblind : FrameBlind Pc) (hrc : rm.cells = mc) (hrs : rm.slots = ms)
    (hframes : rm.frames + 1 ≤ R.frames) (hlocals : W9 + (maxL + 11) + rm.locals ≤ R.locals)
    (hws : ∀ w ∈ ws, ∀ a' U, s.WarmedH U.vm → w.before a' U = true) (hcode : Cond.codeWith y bytes maxL ret hh ∈ ws) (hinit : ∀ a' U, s.WarmedH U.vm → (Cond.initialized y.cls).before a' U = true) :
    vx_Back l R p e below s sargs y len W9 (PreOf R mc ms Pc) (PostOf Qc mc ms free) (vx_Post XC mc ms free) := by
  intro m meth c A g ig mk a X hg hsize hdg hW hn hp
  have h1 : (headSpec ws rm).pre.before a A.U = true := atoms_intro fun w hw => hws w hw _ _ X.warmed
  have h2 : (Cond.codeWith y bytes maxL ret hh).before a A.U = true := hws _ hcode _ _ X.warmed
  have h3 : (Cond.initialized y.cls).before a A.U = true := hinit _ _ X.warmed
  have h4 : A.cells + (headSpec ws rm).room.cells ≤ R.cells := by rw [show (headSpec ws rm).room.cells = mc from hrc]; exact hp.1
  have h5 : A.slots + (headSpec ws rm).room.slots ≤ R.slots := by rw [show (headSpec ws rm).room.slots = ms from hrs]; exact hp.2.1
  have hPc : Pc a (A.U.calling g mk a) := hblind _ _ _ _ hp.2.2
  obtain ⟨U, Ls, c0, s0⟩ := A
  dsimp only [Pt.U, Pt.locs, Pt.cells, Pt.slots] at h1 h2 h3 h4 h5 X hn hPc ⊢
  obtain ⟨m9, methY, cY, hn9, hmY, hcY, -, hlY, -⟩ := Cond.codeWith_spec h2
  cases Option.some.inj (hn9.symm.trans hn)
  obtain ⟨kY, hkY, -⟩ := className_of_methodNamed hn
  have hinitY : kY.init = .initialized := Cond.initialized_spec (findClass_of_methodNamed hn) hkY h3
  have h : At U g.method c below := by rw [hg]; exact X.here
  have hlocals9 : W9 + (maxL + 11) + (headSpec ws rm).room.locals ≤ R.locals := hlocals
  have happ : (headSpec ws rm).appliesLoose y e.platform (U.calling g mk a) = true :=
    Spec.appliesLoose_calling (g := g) h hdg hn hkY hinitY
      (X.room_calling (g := g) (R' := (headSpec ws rm).room) hsize hmY hcY hframes (by rw [hlY]; omega) h4 h5) h1
  obtain ⟨mid, hmid⟩ := h.above
  have hfr : (U.setTop g).frames = (.java g :: mid) ++ below := by rw [State.frames_setTop' g h.top, hmid]; rfl
  obtain ⟨o, s₂, hsteps, -, hend, hq⟩ := Steps.callFree hM p X.admits X.cas X.clock (acts := []) hfr happ hPc trivial
  have hq' : vx_Q Qc XC mc ms free a (U.calling g mk a) o s₂ := hq
  rw [State.frames_setTop' g h.top] at hend
  obtain ⟨g₀, hg0⟩ := Option.isSome_iff_exists.mp h.top
  obtain ⟨r, hr⟩ := State.topJava?_eq_some.mp hg0
  have hr' : (({ U with heap := s₂.heap, slotsUsed := s₂.slotsUsed } : State).setVm s₂.vm).frames = .java g₀ :: r := hr
  rcases hq' with ⟨hqc, L, hfe, hL⟩ | ⟨q, rfl, E, ce, L, hx, hce, hcv, hcl, hW₂, hsm, hL⟩
  · obtain ⟨⟨v, rfl⟩, hW₂, e2, q2, q3, q4, q5, q6⟩ := id hfe
    have e3 : s₂ = ({ (U.calling g mk a).setFrames s₂.frames with heap := s₂.heap, slotsUsed := s₂.slotsUsed } : State).setVm s₂.vm := by
      have : s₂ = ({ s₂ with vm := (U.calling g mk a).vm } : State).setVm s₂.vm := rfl
      rw [e2] at this
      exact this
    obtain ⟨c₂, i₂, len₂, hc₂, hd₂, hf₂⟩ := hend
    have hW' : U.WarmedH s₂.vm := hW₂
    have hcc : c₂ = c := by
      have h1 : s₂.code? g.method = U.code? g.method := by
        rw [State.code?_eq, State.code?_eq, hW'.alike.method?]
      exact Option.some.inj (hc₂.symm.trans (h1.trans h.code))
    subst hcc
    have hlen : len₂ = len := by rw [hdg] at hd₂; cases hd₂; rfl
    subst hlen
    have hs₂ : s₂ = (({ U with heap := s₂.heap, slotsUsed := s₂.slotsUsed } : State).setVm s₂.vm).setTop { g with pc := g.pc + len₂, stack := v.toList ++ g.stack } := by
      refine e3.trans ?_
      rw [hf₂, State.calling_eq h.top, State.setFrames_setFrames, State.setTop_of_frames _ hr', hr]
      rfl
    have hsame : U.sameButNew ({ U with heap := s₂.heap, slotsUsed := s₂.slotsUsed } : State) L mc ms := by
      refine ⟨?_, q2, q3, q4, q5, q6⟩
      obtain ⟨t, ht, -⟩ := State.frames_cons hr
      show ({ U with heap := s₂.heap, slotsUsed := s₂.slotsUsed } : State) = { U.setFrames U.frames with heap := s₂.heap, slotsUsed := s₂.slotsUsed }
      rw [State.setFrames_self ht]
    subst hg
    refine Or.inl ⟨v, ⟨(({ U with heap := s₂.heap, slotsUsed := s₂.slotsUsed } : State).setVm s₂.vm), Ls ++ L, c0 + mc, s0 + ms⟩,
      ⟨X.admits, X.cas, X.clock, X.frames, X.room, X.hears, X.method, X.code, (X.here.setHeapUsed s₂.heap s₂.slotsUsed).setVm hW'.alike, X.tail, State.WarmedH.trans X.warmed hW', X.limits, X.bytes, X.same.trans (hsame.setVm s.vm)⟩,
      ⟨g, mk, s₂, L, rfl, rfl, hqc, rfl, hL, rfl, rfl⟩, ?_⟩
    show Steps p.tables e below _ ((({ U with heap := s₂.heap, slotsUsed := s₂.slotsUsed } : State).setVm s₂.vm).setTop { g with pc := g.pc + len₂, stack := v.toList ++ g.stack })
    rw [← hs₂]
    exact hsteps
  · obtain ⟨e2, q2, q3, q4, q5, q6⟩ := id hsm
    have e3 : s₂ = ({ (U.calling g mk a).setFrames s₂.frames with heap := s₂.heap, slotsUsed := s₂.slotsUsed } : State).setVm s₂.vm := by
      have : s₂ = ({ s₂ with vm := (U.calling g mk a).vm } : State).setVm s₂.vm := rfl
      rw [e2] at this
      exact this
    have hf₂ : s₂.frames = .throwing q :: .java g :: U.frames.tail := hend
    have hW' : U.WarmedH s₂.vm := hW₂
    have hs₂ : s₂ = ((({ U with heap := s₂.heap, slotsUsed := s₂.slotsUsed } : State).setVm s₂.vm).setTop g).pushFrame (.throwing q) := by
      refine e3.trans ?_
      rw [hf₂, State.calling_eq h.top, State.setFrames_setFrames, State.pushFrame, State.frames_setTop _ hr', State.setTop_of_frames _ hr', State.setFrames_setFrames, hr]
      rfl
    have hsame : U.sameButNew ({ U with heap := s₂.heap, slotsUsed := s₂.slotsUsed } : State) L mc ms := by
      refine ⟨?_, q2, q3, q4, q5, q6⟩
      obtain ⟨t, ht, -⟩ := State.frames_cons hr
      show ({ U with heap := s₂.heap, slotsUsed := s₂.slotsUsed } : State) = { U.setFrames U.frames with heap := s₂.heap, slotsUsed := s₂.slotsUsed }
      rw [State.setFrames_self ht]
    subst hg
    refine Or.inr ⟨q, ⟨(({ U with heap := s₂.heap, slotsUsed := s₂.slotsUsed } : State).setVm s₂.vm), Ls ++ L, c0 + mc, s0 + ms⟩,
      ⟨X.admits, X.cas, X.clock, X.frames, X.room, X.hears, X.method, X.code, (X.here.setHeapUsed s₂.heap s₂.slotsUsed).setVm hW'.alike, X.tail, State.WarmedH.trans X.warmed hW', X.limits, X.bytes, X.same.trans (hsame.setVm s.vm)⟩,
      ⟨g, mk, s₂, L, E, ce, rfl, rfl, hx, hce, hcv, hcl, rfl, hL, rfl, rfl⟩, ?_⟩
    show Steps p.tables e below _ (((({ U with heap := s₂.heap, slotsUsed := s₂.slotsUsed } : State).setVm s₂.vm).setTop g).pushFrame (.throwing q))
    rw [← hs₂]
    exact hsteps
end
variable {p : Program} {l : Launch} {e : Env} {R : Room} {s : State} {m : MethodId} {args : Array Value} {below : List Frame} {meth : Method} {c : Code} {T : State} {H : Heap} {locs : List Loc} {cells slots : Nat}
theorem vx_callVX (X : Stand p l e R s m args below meth c T locs cells slots) (hexec : p.tables.exec = Jvm.exec) {own C : String} {index : Nat} {y : MethodName} {bytes : ByteArray} {maxL : Nat} {ret : Option FieldType} {hh : List (Nat × Nat × Nat × Nat)}
    (hown : s.vm.findClass own = some m.cls) (hlink : (Cond.methodLink own index y).before args s = true) (hinst : (Cond.instanceMethod y).before args s = true) (hsel : (Cond.selects C y y).before args s = true)
    (hcode : (Cond.codeWith y bytes maxL ret hh).before args s = true) (hy : y.cls ≠ "java/lang/invoke/MethodHandle" ∧ y.cls ≠ "java/lang/invoke/VarHandle")
    {W9 : Nat} {Pre : Pt → Array Value → Prop} {Post : Pt → Array Value → Option Value → Pt → Prop} {PostX : Pt → Array Value → Addr → Pt → Prop} (hK : vx_Back l R p e below s args y 3 W9 Pre Post PostX)
    {b : Addr} {cellB : Cell} (hcell : T.heap[b]? = some cellB) (hobj : cellB.vm.isStatics = false) (hcls : s.vm.findClass C = some cellB.cls)
    {g : JFrame} (hg : g.method = m) (hsize : g.locals.size = c.maxLocals) {argsL rest : List Value} (hlen : ∀ sig, parseMethodDescriptor y.desc = some sig → argsL.length = sig.parameters.length)
    (hstack : g.stack = argsL.reverse ++ .ref b :: rest) (hW : 2 * g.monitorRoom + (rest.map fun v => v.category).sum ≤ W9) (hdg : decode c.code g.pc = .ok (.invokevirtual index, 3))
    (hpre : ∀ vm₁, s.WarmedH vm₁ → Pre ⟨T.setVm vm₁, locs, cells, slots⟩ (Value.ref b :: argsL).toArray) :
    (∃ (v : Option Value) (vm₁ : Vm) (B : Pt), s.WarmedH vm₁ ∧ Stand p l e R s m args below meth c B.U B.locs B.cells B.slots ∧ Post ⟨T.setVm vm₁, locs, cells, slots⟩ (Value.ref b :: argsL).toArray v B ∧
      ∀ target, Steps p.tables e below (B.U.setTop { g with pc := g.pc + 3, stack := v.toList ++ rest }) target → Steps p.tables e below (T.setTop g) target) ∨
    (∃ (q : Addr) (vm₁ : Vm) (B : Pt), s.WarmedH vm₁ ∧ Stand p l e R s m args below meth c B.U B.locs B.cells B.slots ∧ PostX ⟨T.setVm vm₁, locs, cells, slots⟩ (Value.ref b :: argsL).toArray q B ∧
      Steps p.tables e below (T.setTop g) ((B.U.setTop { g with stack := rest }).pushFrame (.throwing q))) := by
  obtain ⟨mk, methM, hnamed, hmethM, hstM, habM⟩ := Cond.instanceMethod_spec hinst
  obtain ⟨m8, methM', cM, hn8, hmethM', -, -, -, -, -, -, hsigM⟩ := Cond.codeWith_spec hcode
  cases Option.some.inj (hn8.symm.trans hnamed)
  cases hmethM.symm.trans hmethM'
  obtain ⟨c2, r2, m2, q1, q2, q3, q4, kP, hkP, hkPi⟩ := Cond.selects_spec hsel
  cases hcls.symm.trans q1
  cases (State.methodFound?_of_named hnamed hy).symm.trans q2
  cases hnamed.symm.trans q3
  have hselP : selectMethod e.platform s.vm cellB.cls mk = .method mk := by rw [Launch.admits_selectMethod X.admits]; exact q4
  obtain ⟨vm₁, X₁, hstep₁⟩ := X.invokevirtual hexec hown hlink hnamed hmethM hstM hkP hkPi hy (a := b) (cell := cellB) hcell
    (fun z h => by rw [h] at hobj; cases hobj) hselP hmethM habM hkP hkPi (g := g) hg (argsL := argsL) (rest := rest) (hlen _ hsigM) hstack hdg
  rcases hK m meth c ⟨T.setVm vm₁, locs, cells, slots⟩ { g with stack := rest } (.invokevirtual index) mk (Value.ref b :: argsL).toArray X₁ hg hsize hdg hW (X₁.named hnamed) (hpre vm₁ X₁.warmed) with ⟨v, B, X', hpost, hsteps⟩ | ⟨q, B, X', hpost, hsteps⟩
  · exact Or.inl ⟨v, vm₁, B, X₁.warmed, X', hpost, fun target h => hstep₁ _ fun acts => by rw [doInvoke_state]; exact hsteps.trans h⟩
  · exact Or.inr ⟨q, vm₁, B, X₁.warmed, X', hpost, hstep₁ _ fun acts => by rw [doInvoke_state]; exact hsteps⟩
theorem vx_callSX (X : Stand p l e R s m args below meth c T locs cells slots) (hexec : p.tables.exec = Jvm.exec) {own : String} {index : Nat} {y : MethodName} {bytes : ByteArray} {maxL : Nat} {ret : Option FieldType} {hh : List (Nat × Nat × Nat × Nat)}
    (hown : s.vm.findClass own = some m.cls) (hlink : (Cond.methodLink own index y).before args s = true) (hstat : (Cond.static y).before args s = true) (hinit : (Cond.initialized y.cls).before args s = true)
    (hcode : (Cond.codeWith y bytes maxL ret hh).before args s = true) (hy : y.cls ≠ "java/lang/invoke/MethodHandle" ∧ y.cls ≠ "java/lang/invoke/VarHandle")
    {W9 : Nat} {Pre : Pt → Array Value → Prop} {Post : Pt → Array Value → Option Value → Pt → Prop} {PostX : Pt → Array Value → Addr → Pt → Prop} (hK : vx_Back l R p e below s args y 3 W9 Pre Post PostX)
    {g : JFrame} (hg : g.method = m) (hsize : g.locals.size = c.maxLocals) {argsL rest : List Value} (hlen : ∀ sig, parseMethodDescriptor y.desc = some sig → argsL.length = sig.parameters.length)
    (hstack : g.stack = argsL.reverse ++ rest) (hW : 2 * g.monitorRoom + (rest.map fun v => v.category).sum ≤ W9) (hdg : decode c.code g.pc = .ok (.invokestatic index, 3))
    (hpre : ∀ vm₁, s.WarmedH vm₁ → Pre ⟨T.setVm vm₁, locs, cells, slots⟩ argsL.toArray) :
    (∃ (v : Option Value) (vm₁ : Vm) (B : Pt), s.WarmedH vm₁ ∧ Stand p l e R s m args below meth c B.U B.locs B.cells B.slots ∧ Post ⟨T.setVm vm₁, locs, cells, slots⟩ argsL.toArray v B ∧
      ∀ target, Steps p.tables e below (B.U.setTop { g with pc := g.pc + 3, stack := v.toList ++ rest }) target → Steps p.tables e below (T.setTop g) target) ∨
    (∃ (q : Addr) (vm₁ : Vm) (B : Pt), s.WarmedH vm₁ ∧ Stand p l e R s m args below meth c B.U B.locs B.cells B.slots ∧ PostX ⟨T.setVm vm₁, locs, cells, slots⟩ argsL.toArray q B ∧
      Steps p.tables e below (T.setTop g) ((B.U.setTop { g with stack := rest }).pushFrame (.throwing q))) := by
  obtain ⟨mk, methM, cM, hnamed, hmethM, -, -, -, -, -, -, hsigM⟩ := Cond.codeWith_spec hcode
  have hstatic : methM.isStatic = true := Cond.static_spec hnamed hmethM hstat
  obtain ⟨kP, hkP, -⟩ := className_of_methodNamed hnamed
  have hinitP : kP.init = .initialized := Cond.initialized_spec (findClass_of_methodNamed hnamed) hkP hinit
  obtain ⟨vm₁, X₁, hstep₁⟩ := X.invokestatic hexec hown hlink hnamed hmethM hstatic hkP hinitP hy (g := g) hg (argsL := argsL) (rest := rest) (hlen _ hsigM) hstack hdg
  rcases hK m meth c ⟨T.setVm vm₁, locs, cells, slots⟩ { g with stack := rest } (.invokestatic index) mk argsL.toArray X₁ hg hsize hdg hW (X₁.named hnamed) (hpre vm₁ X₁.warmed) with ⟨v, B, X', hpost, hsteps⟩ | ⟨q, B, X', hpost, hsteps⟩
  · exact Or.inl ⟨v, vm₁, B, X₁.warmed, X', hpost, fun target h => hstep₁ _ fun acts => by rw [doInvoke_state]; exact hsteps.trans h⟩
  · exact Or.inr ⟨q, vm₁, B, X₁.warmed, X', hpost, hstep₁ _ fun acts => by rw [doInvoke_state]; exact hsteps⟩
theorem vx_callVW (X : Stand p l e R s m args below meth c T locs cells slots) (hexec : p.tables.exec = Jvm.exec) {own C : String} {index : Nat} {y : MethodName} {bytes : ByteArray} {maxL : Nat} {ret : Option FieldType} {hh : List (Nat × Nat × Nat × Nat)}
    (hown : s.vm.findClass own = some m.cls) (hlink : (Cond.methodLink own index y).before args s = true) (hinst : (Cond.instanceMethod y).before args s = true) (hsel : (Cond.selects C y y).before args s = true)
    (hcode : (Cond.codeWith y bytes maxL ret hh).before args s = true) (hy : y.cls ≠ "java/lang/invoke/MethodHandle" ∧ y.cls ≠ "java/lang/invoke/VarHandle")
    {W9 : Nat} {Pre : Pt → Array Value → Prop} {Post : Pt → Array Value → Option Value → Pt → Prop} (hK : Back l R p e below s args y 3 W9 Pre Post)
    {b : Addr} {cellB : Cell} (hcell : T.heap[b]? = some cellB) (hobj : cellB.vm.isStatics = false) (hcls : s.vm.findClass C = some cellB.cls)
    {g : JFrame} (hg : g.method = m) (hsize : g.locals.size = c.maxLocals) {argsL rest : List Value} (hlen : ∀ sig, parseMethodDescriptor y.desc = some sig → argsL.length = sig.parameters.length)
    (hstack : g.stack = argsL.reverse ++ .ref b :: rest) (hW : 2 * g.monitorRoom + (rest.map fun v => v.category).sum ≤ W9) (hdg : decode c.code g.pc = .ok (.invokevirtual index, 3))
    (hpre : ∀ vm₁, s.WarmedH vm₁ → Pre ⟨T.setVm vm₁, locs, cells, slots⟩ (Value.ref b :: argsL).toArray) :
    ∃ (v : Option Value) (vm₁ : Vm) (B : Pt), s.WarmedH vm₁ ∧ Stand p l e R s m args below meth c B.U B.locs B.cells B.slots ∧ Post ⟨T.setVm vm₁, locs, cells, slots⟩ (Value.ref b :: argsL).toArray v B ∧
      ∀ target, Steps p.tables e below (B.U.setTop { g with pc := g.pc + 3, stack := v.toList ++ rest }) target → Steps p.tables e below (T.setTop g) target := by
  obtain ⟨mk, methM, hnamed, hmethM, hstM, habM⟩ := Cond.instanceMethod_spec hinst
  obtain ⟨m8, methM', cM, hn8, hmethM', -, -, -, -, -, -, hsigM⟩ := Cond.codeWith_spec hcode
  cases Option.some.inj (hn8.symm.trans hnamed)
  cases hmethM.symm.trans hmethM'
  obtain ⟨c2, r2, m2, q1, q2, q3, q4, kP, hkP, hkPi⟩ := Cond.selects_spec hsel
  cases hcls.symm.trans q1
  cases (State.methodFound?_of_named hnamed hy).symm.trans q2
  cases hnamed.symm.trans q3
  have hselP : selectMethod e.platform s.vm cellB.cls mk = .method mk := by rw [Launch.admits_selectMethod X.admits]; exact q4
  obtain ⟨vm₁, X₁, hstep₁⟩ := X.invokevirtual hexec hown hlink hnamed hmethM hstM hkP hkPi hy (a := b) (cell := cellB) hcell
    (fun z h => by rw [h] at hobj; cases hobj) hselP hmethM habM hkP hkPi (g := g) hg (argsL := argsL) (rest := rest) (hlen _ hsigM) hstack hdg
  obtain ⟨v, B, X', hpost, hsteps⟩ := hK m meth c ⟨T.setVm vm₁, locs, cells, slots⟩ { g with stack := rest } (.invokevirtual index) mk (Value.ref b :: argsL).toArray X₁ hg hsize hdg hW (X₁.named hnamed) (hpre vm₁ X₁.warmed)
  exact ⟨v, vm₁, B, X₁.warmed, X', hpost, fun target h => hstep₁ _ fun acts => by rw [doInvoke_state]; exact hsteps.trans h⟩
abbrev vx_CVW (R : Room) (s : State) (args : Array Value) (own C : String) (index : Nat) (y : MethodName) (bytes : ByteArray) (maxL : Nat) (ret : Option FieldType) (hh : List (Nat × Nat × Nat × Nat)) (ws : List Cond) (rm : Room) (mc ms n : Nat) : Prop :=
  (rm.cells = mc ∧ rm.slots = ms ∧ rm.frames + 1 ≤ R.frames ∧ 8 + (maxL + 11) + rm.locals ≤ R.locals ∧ (∀ w ∈ ws, ∀ (a' : Array Value) (U : State), s.WarmedH U.vm → w.before a' U = true) ∧ Cond.codeWith y bytes maxL ret hh ∈ ws) ∧
  (Cond.codeWith y bytes maxL ret hh).before args s = true ∧ (Cond.initialized y.cls).before args s = true ∧ (y.cls ≠ "java/lang/invoke/MethodHandle" ∧ y.cls ≠ "java/lang/invoke/VarHandle") ∧
  (∀ sig, parseMethodDescriptor y.desc = some sig → n = sig.parameters.length) ∧ (Cond.methodLink own index y).before args s = true ∧ (Cond.instanceMethod y).before args s = true ∧ (Cond.selects C y y).before args s = true
theorem vx_cwVW {own C : String} {index maxL mc ms : Nat} {y : MethodName} {bytes : ByteArray} {ret : Option FieldType} {hh : List (Nat × Nat × Nat × Nat)} {Ts ws ws' : List Cond} {rm : Room} (n : Nat) (ht : ∀ w ∈ Ts, w.before args s = true) (hT : GoodIn Ts (wsV own index C y ws)) (hw : ws = Cond.codeWith y bytes maxL ret hh :: ws') (hrc : rm.cells = mc) (hrs : rm.slots = ms)
    (hd : y.cls = C ∧ y.cls ≠ "java/lang/invoke/MethodHandle" ∧ y.cls ≠ "java/lang/invoke/VarHandle" ∧ (parseMethodDescriptor y.desc).map (fun d => d.parameters.length) = some n) (hR : rm.frames + 1 ≤ R.frames ∧ 8 + (maxL + 11) + rm.locals ≤ R.locals) :
    vx_CVW R s args own C index y bytes maxL ret hh ws rm mc ms n := by
  obtain ⟨hC, hd⟩ := hd
  subst hC
  have ok : ∀ w ∈ wsV own index y.cls y ws, w.before args s = true := fun w h => ht w (hT w h).1
  have hG : GoodIn Ts ws := fun w h => hT w (by unfold wsV; exact List.mem_append_right _ h)
  have hc : Cond.codeWith y bytes maxL ret hh ∈ ws := by rw [hw]; exact List.mem_cons_self
  refine ⟨⟨hrc, hrs, hR.1, hR.2, pay_in ht hG, hc⟩, ht _ (hG _ hc).1, ok _ (by simp [wsV]), ⟨hd.1, hd.2.1⟩, fun sig h => ?_, ok _ (by simp [wsV]), ok _ (by simp [wsV]), ok _ (by simp [wsV])⟩
  have h2 := hd.2.2
  rw [h] at h2
  exact (Option.some.inj h2).symm
theorem vx_runVW {y : MethodName} {bytes cc : ByteArray} {maxL nL mc ms n index : Nat} {ret : Option FieldType} {hh : List (Nat × Nat × Nat × Nat)} {ws : List Cond} {rm : Room} {Pc : Array Value → State → Prop} {Qc : Array Value → State → Outcome → State → Prop} {free : Addr → Prop} {Ts : List Cond} {own C : String} {b : Addr} {As rest : List Value} {g : JFrame}
    (S : CallFix p m c cc nL s args Ts own) (hM : Met l y ws rm Pc Qc mc ms free) (cw : vx_CVW R s args own C index y bytes maxL ret hh ws rm mc ms n) (hp : PreV s H C b Pc As)
    (hg : g.method = m) (hn : As.length = n) (hsize : g.locals.size = nL) (hstack : g.stack = As.reverse ++ .ref b :: rest) (hW : 2 * g.monitorRoom + (rest.map fun v => v.category).sum ≤ 8) (hdg : decode cc g.pc = .ok (.invokevirtual index, 3)) (hf : cells + mc ≤ R.cells ∧ slots + ms ≤ R.slots) :
    va_Run p l e R s m args below meth c H locs cells slots mc ms g rest (Qc (Value.ref b :: As).toArray) free := by
  obtain ⟨⟨hrc, hrs, hfr, hlo, hws, hcw⟩, hcode, hini, hy, hlen, hl, hin, hse⟩ := cw
  have hK : Back l R p e below s args y 3 8 (PreOf R mc ms Pc) (PostOf Qc mc ms free) := va_backW (hh := hh) (bytes := bytes) (maxL := maxL) (ret := ret) hM hp.1 hrc hrs hfr hlo hws hcw (fun a' U hW => word_at hW (Or.inl (by first | rfl | simp [Cond.onTables, Cond.keeps, Cond.steady])) hini)
  obtain ⟨hx, hb, hml, ho, -⟩ := S
  obtain ⟨-, ⟨cellB, hcB, hoB, hclB⟩, hPc⟩ := hp
  intro T hT X
  obtain ⟨v, vm₁, ⟨U', l2, c2, s2⟩, hW₁, X', ⟨g', mk, t, L, e1, e2, hq, h1, hL, h2, h3⟩, st⟩ := vx_callVW X hx (C := C) (hh := hh) (bytes := bytes) (maxL := maxL) (ret := ret) ho hl hin hse hcode hy hK (by rw [hT]; exact hcB) hoB hclB hg (hsize.trans hml.symm) (argsL := As) (rest := rest) (fun sig h => hn.trans (hlen sig h)) hstack hW (by rw [hb]; exact hdg)
    (fun vm₁ hW₁ => ⟨hf.1, hf.2, hPc (T.setVm vm₁) hT hW₁⟩)
  dsimp only [Pt.U, Pt.locs, Pt.cells, Pt.slots] at X' e1 e2 h1 h2 h3 st
  subst h1; subst h2; subst h3
  exact ⟨v, (T.setVm vm₁).calling g' mk (Value.ref b :: As).toArray, t, U', L, hT, X', hL, e1, e2, hq, st⟩
section
variable {y : MethodName} {bytes cc : ByteArray} {maxL nL mc ms n index : Nat} {ret : Option FieldType} {ws : List Cond} {rm : Room} {Pc : Array Value → State → Prop} {Qc : Array Value → State → Outcome → State → Prop} {XC : String → State → State → Prop} {free : Addr → Prop} {Ts : List Cond} {own C : String} {b : Addr} {As rest : List Value} {g : JFrame}
theorem vx_runVX {hh : List (Nat × Nat × Nat × Nat)} (S : CallFix p m c cc nL s args Ts own) (hM : vx_Met l y ws rm Pc Qc XC mc ms free) (cw : vx_CVW R s args own C index y bytes maxL ret hh ws rm mc ms n) (hp : PreV s H C b Pc As)
    (hg : g.method = m) (hn : As.length = n) (hsize : g.locals.size = nL) (hstack : g.stack = As.reverse ++ .ref b :: rest) (hW : 2 * g.monitorRoom + (rest.map fun v => v.category).sum ≤ 8) (hdg : decode cc g.pc = .ok (.invokevirtual index, 3)) (hf : cells + mc ≤ R.cells ∧ slots + ms ≤ R.slots) :
    vx_Run p l e R s m args below meth c H locs cells slots mc ms g rest (Qc (Value.ref b :: As).toArray) XC free := by
  obtain ⟨⟨hrc, hrs, hfr, hlo, hws, hcw⟩, hcode, hini, hy, hlen, hl, hin, hse⟩ := cw
  have hK : vx_Back l R p e below s args y 3 8 (PreOf R mc ms Pc) (PostOf Qc mc ms free) (vx_Post XC mc ms free) := vx_backW (hh := hh) (bytes := bytes) (maxL := maxL) (ret := ret) hM hp.1 hrc hrs hfr hlo hws hcw (fun a' U hW => word_at hW (Or.inl (by first | rfl | simp [Cond.onTables, Cond.keeps, Cond.steady])) hini)
  obtain ⟨hx, hb, hml, ho, -⟩ := S
  obtain ⟨-, ⟨cellB, hcB, hoB, hclB⟩, hPc⟩ := hp
  intro T hT X
  rcases vx_callVX X hx (C := C) (hh := hh) (bytes := bytes) (maxL := maxL) (ret := ret) ho hl hin hse hcode hy hK (by rw [hT]; exact hcB) hoB hclB hg (hsize.trans hml.symm) (argsL := As) (rest := rest) (fun sig h => hn.trans (hlen sig h)) hstack hW (by rw [hb]; exact hdg)
    (fun vm₁ hW₁ => ⟨hf.1, hf.2, hPc (T.setVm vm₁) hT hW₁⟩) with ⟨v, vm₁, ⟨U', l2, c2, s2⟩, hW₁, X', ⟨g', mk, t, L, e1, e2, hq, h1, hL, h2, h3⟩, st⟩ | ⟨q, vm₁, ⟨U', l2, c2, s2⟩, hW₁, X', ⟨g', mk, t, L, E, ce, e1, e2, hq, hce, hcv, hcl, h1, hL, h2, h3⟩, st⟩
  · dsimp only [Pt.U, Pt.locs, Pt.cells, Pt.slots] at X' e1 e2 h1 h2 h3 st
    subst h1; subst h2; subst h3
    exact Or.inl ⟨v, (T.setVm vm₁).calling g' mk (Value.ref b :: As).toArray, t, U', L, hT, X', hL, e1, e2, hq, st⟩
  · dsimp only [Pt.U, Pt.locs, Pt.cells, Pt.slots] at X' e1 e2 h1 h2 h3 st hcl
    subst h1; subst h2; subst h3
    exact Or.inr ⟨q, (T.setVm vm₁).calling g' mk (Value.ref b :: As).toArray, t, U', L, E, ce, hT, X', hL, e1, e2, hq, hce, hcv, vx_cls hW₁ hcl, st⟩
theorem vx_runSX {hh : List (Nat × Nat × Nat × Nat)} (S : CallFix p m c cc nL s args Ts own) (hM : vx_Met l y ws rm Pc Qc XC mc ms free) (cw : vx_CSW R s args own index y bytes maxL ret hh ws rm mc ms n) (hp : PreS s H Pc As)
    (hg : g.method = m) (hn : As.length = n) (hsize : g.locals.size = nL) (hstack : g.stack = As.reverse ++ rest) (hW : 2 * g.monitorRoom + (rest.map fun v => v.category).sum ≤ 8) (hdg : decode cc g.pc = .ok (.invokestatic index, 3)) (hf : cells + mc ≤ R.cells ∧ slots + ms ≤ R.slots) :
    vx_Run p l e R s m args below meth c H locs cells slots mc ms g rest (Qc As.toArray) XC free := by
  obtain ⟨⟨hrc, hrs, hfr, hlo, hws, hcw⟩, hcode, hini, hy, hlen, hl, hstt⟩ := cw
  have hK : vx_Back l R p e below s args y 3 8 (PreOf R mc ms Pc) (PostOf Qc mc ms free) (vx_Post XC mc ms free) := vx_backW (hh := hh) (bytes := bytes) (maxL := maxL) (ret := ret) hM hp.1 hrc hrs hfr hlo hws hcw (fun a' U hW => word_at hW (Or.inl (by first | rfl | simp [Cond.onTables, Cond.keeps, Cond.steady])) hini)
  obtain ⟨hx, hb, hml, ho, -⟩ := S
  intro T hT X
  rcases vx_callSX X hx (hh := hh) (bytes := bytes) (maxL := maxL) (ret := ret) ho hl hstt hini hcode hy hK hg (hsize.trans hml.symm) (argsL := As) (rest := rest) (fun sig h => hn.trans (hlen sig h)) hstack hW (by rw [hb]; exact hdg)
    (fun vm₁ hW₁ => ⟨hf.1, hf.2, hp.2 (T.setVm vm₁) hT hW₁⟩) with ⟨v, vm₁, ⟨U', l2, c2, s2⟩, hW₁, X', ⟨g', mk, t, L, e1, e2, hq, h1, hL, h2, h3⟩, st⟩ | ⟨q, vm₁, ⟨U', l2, c2, s2⟩, hW₁, X', ⟨g', mk, t, L, E, ce, e1, e2, hq, hce, hcv, hcl, h1, hL, h2, h3⟩, st⟩
  · dsimp only [Pt.U, Pt.locs, Pt.cells, Pt.slots] at X' e1 e2 h1 h2 h3 st
    subst h1; subst h2; subst h3
    exact Or.inl ⟨v, (T.setVm vm₁).calling g' mk As.toArray, t, U', L, hT, X', hL, e1, e2, hq, st⟩
  · dsimp only [Pt.U, Pt.locs, Pt.cells, Pt.slots] at X' e1 e2 h1 h2 h3 st hcl
    subst h1; subst h2; subst h3
    exact Or.inr ⟨q, (T.setVm vm₁).calling g' mk As.toArray, t, U', L, E, ce, hT, X', hL, e1, e2, hq, hce, hcv, vx_cls hW₁ hcl, st⟩
end
end VXH
theorem vx_ofWH {l : Launch} {y : MethodName} {ws ws' : List Cond} {rm : Room} {Pc : Array Value → State → Prop} {Qc : Array Value → State → Outcome → State → Prop} {XC : String → State → State → Prop} {mc ms : Nat} {free : Addr → Prop} {cc : ByteArray} {maxL : Nat} {ret : Option FieldType} {hh : List (Nat × Nat × Nat × Nat)}
    (hy : plainName y.cls = true) (hw : ws = Cond.codeWith y cc maxL ret hh :: ws')
    (body : ∀ p e s m args below meth c s₁, BodyLoose p l y (headSpec ws rm) cc maxL ret e s m args below meth c s₁ → c.maxLocals = maxL → Pc args s →
      W p l e (headSpec ws rm).room s m args below meth c s.heap [] 0 0 (vx_MQ below Qc XC args s mc ms free) (entryFrame m args maxL)) : vx_Met l y ws rm Pc Qc XC mc ms free := by
  refine MetFree.of_bodyS (code := cc) (maxLocals := maxL) (ret := ret) hy ?_ ?_
  · intro args s m h hn
    obtain ⟨m9, meth, c, hn9, h1, h2, h3, h4, -, h5, h6, -⟩ := Cond.codeWith_spec (atoms_spec (ws := ws) h _ (by rw [hw]; exact List.mem_cons_self))
    cases hn.symm.trans hn9
    exact ⟨meth, c, h1, h2, h3, h4, h5, h6⟩
  · intro p e s m args below meth c s₁ B hml hP _
    have hh0 : s₁.heap = s.heap := by rw [B.state]; rfl
    obtain ⟨t, a1, o, b1, b2, b3⟩ := body p e s m args below meth c s₁ B hml hP s₁ hh0 (Stand.of_body B)
    exact ⟨t, o, a1, b1, b2, b3⟩
/-! ===== END ===== -/
end
section
/-! ===== BEGIN a constructor that throws (launches without stack traces) ===== -/
section VXIA
variable {p : Program} {l : Launch} {e : Env} {R : Room} {s : State} {m : MethodId} {args : Array Value} {below : List Frame} {meth : Method} {c : Code} {T : State} {locs : List Loc} {cells slots : Nat}
theorem vx_callI (X : Stand p l e R s m args below meth c T locs cells slots) (hexec : p.tables.exec = Jvm.exec) {own : String} {index : Nat} {y : MethodName} {bytes : ByteArray} {maxL : Nat}
    (hown : s.vm.findClass own = some m.cls) (hy1 : y.name = "<init>") (hlink : (Cond.methodLink own index y).before args s = true) (hinst : (Cond.instanceMethod y).before args s = true)
    (hcode : (Cond.code y bytes maxL none).before args s = true) (hy : y.cls ≠ "java/lang/invoke/MethodHandle" ∧ y.cls ≠ "java/lang/invoke/VarHandle")
    {W9 : Nat} {Pre : Pt → Array Value → Prop} {Post : Pt → Array Value → Option Value → Pt → Prop} {PostX : Pt → Array Value → Addr → Pt → Prop} (hK : vx_Back l R p e below s args y 3 W9 Pre Post PostX)
    {g : JFrame} (hg : g.method = m) (hsize : g.locals.size = c.maxLocals) {a : Addr} {argsL rest : List Value} (hlen : ∀ sig, parseMethodDescriptor y.desc = some sig → argsL.length = sig.parameters.length)
    (hstack : g.stack = argsL.reverse ++ .ref a :: rest) (hW : 2 * g.monitorRoom + (rest.map fun v => v.category).sum ≤ W9) (hdg : decode c.code g.pc = .ok (.invokespecial index, 3))
    (hpre : ∀ vm₁, s.WarmedH vm₁ → Pre ⟨T.setVm vm₁, locs, cells, slots⟩ (Value.ref a :: argsL).toArray) :
    (∃ (v : Option Value) (vm₁ : Vm) (B : Pt), s.WarmedH vm₁ ∧ Stand p l e R s m args below meth c B.U B.locs B.cells B.slots ∧ Post ⟨T.setVm vm₁, locs, cells, slots⟩ (Value.ref a :: argsL).toArray v B ∧
      ∀ target, Steps p.tables e below (B.U.setTop { g with pc := g.pc + 3, stack := v.toList ++ rest }) target → Steps p.tables e below (T.setTop g) target) ∨
    (∃ (q : Addr) (vm₁ : Vm) (B : Pt), s.WarmedH vm₁ ∧ Stand p l e R s m args below meth c B.U B.locs B.cells B.slots ∧ PostX ⟨T.setVm vm₁, locs, cells, slots⟩ (Value.ref a :: argsL).toArray q B ∧
      Steps p.tables e below (T.setTop g) ((B.U.setTop { g with stack := rest }).pushFrame (.throwing q))) := by
  subst hg
  have hpl : e.platform.magicAccessors = ({} : Platform).magicAccessors := by rw [X.admits.platform]
  obtain ⟨mk, methM, cM, kP, vm₁, hnamed, hmethM, hcodeM, -, hlocalsM, -, hkP, -, hW₁, hstep₁⟩ := Steps.initColdArgs (e := e) X.here hexec X.warmed hpl hown hy1 hy hlink hinst hcode (f := g) rfl hlen hstack hdg
  have X₁ := X.noted hW₁
  rcases hK g.method meth c ⟨T.setVm vm₁, locs, cells, slots⟩ { g with stack := rest } (.invokespecial index) mk (Value.ref a :: argsL).toArray X₁ rfl hsize hdg hW (X₁.named hnamed) (hpre vm₁ X₁.warmed) with ⟨v, B, X', hpost, hsteps⟩ | ⟨q, B, X', hpost, hsteps⟩
  · exact Or.inl ⟨v, vm₁, B, X₁.warmed, X', hpost, fun target h => hstep₁ _ fun acts => by rw [doInvoke_state]; exact hsteps.trans h⟩
  · exact Or.inr ⟨q, vm₁, B, X₁.warmed, X', hpost, hstep₁ _ fun acts => by rw [doInvoke_state]; exact hsteps⟩
end VXIA
section VXIB
variable {p : Program} {l : Launch} {e : Env} {R : Room} {s : State} {m : MethodId} {args : Array Value} {below : List Frame} {meth : Method} {c : Code} {H : Heap} {locs : List Loc} {cells slots : Nat}
variable {y : MethodName} {bytes cc : ByteArray} {maxL nL mc ms n index : Nat} {ret : Option FieldType} {ws : List Cond} {rm : Room} {Pc : Array Value → State → Prop} {Qc : Array Value → State → Outcome → State → Prop} {XC : String → State → State → Prop} {free : Addr → Prop} {Ts : List Cond} {own C : String} {b : Addr} {As rest : List Value} {g : JFrame}
theorem vx_runI (S : CallFix p m c cc nL s args Ts own) (hM : vx_Met l y ws rm Pc Qc XC mc ms free) (cw : CallB R s args own index y bytes maxL none ws rm mc ms n ∧ y.name = "<init>" ∧ (Cond.instanceMethod y).before args s = true) (hp : PreS s H Pc (.ref b :: As))
    (hg : g.method = m) (hn : As.length = n) (hsize : g.locals.size = nL) (hstack : g.stack = As.reverse ++ .ref b :: rest) (hW : 2 * g.monitorRoom + (rest.map fun v => v.category).sum ≤ 8) (hdg : decode cc g.pc = .ok (.invokespecial index, 3)) (hf : cells + mc ≤ R.cells ∧ slots + ms ≤ R.slots) :
    vx_Run p l e R s m args below meth c H locs cells slots mc ms g rest (Qc (Value.ref b :: As).toArray) XC free := by
  have hK : vx_Back l R p e below s args y 3 8 (PreOf R mc ms Pc) (PostOf Qc mc ms free) (vx_Post XC mc ms free) := vx_callBack cw.1 hM hp.1
  obtain ⟨⟨-, -, -, -, -, -, hcode, -, hy, hlen, hl⟩, hy1, hin⟩ := cw
  obtain ⟨hx, hb, hml, ho, -⟩ := S
  have hPc := hp.2
  intro T hT X
  rcases vx_callI X hx (bytes := bytes) (maxL := maxL) ho hy1 hl hin hcode hy hK hg (hsize.trans hml.symm) (a := b) (argsL := As) (rest := rest) (fun sig h => hn.trans (hlen sig h)) hstack hW (by rw [hb]; exact hdg)
    (fun vm₁ hW₁ => ⟨hf.1, hf.2, hPc (T.setVm vm₁) hT hW₁⟩) with ⟨v, vm₁, ⟨U', l2, c2, s2⟩, hW₁, X', ⟨g', mk, t, L, e1, e2, hq, h1, hL, h2, h3⟩, st⟩ | ⟨q, vm₁, ⟨U', l2, c2, s2⟩, hW₁, X', ⟨g', mk, t, L, E, ce, e1, e2, hq, hce, hcv, hcl, h1, hL, h2, h3⟩, st⟩
  · dsimp only [Pt.U, Pt.locs, Pt.cells, Pt.slots] at X' e1 e2 h1 h2 h3 st
    subst h1; subst h2; subst h3
    exact Or.inl ⟨v, (T.setVm vm₁).calling g' mk (Value.ref b :: As).toArray, t, U', L, hT, X', hL, e1, e2, hq, st⟩
  · dsimp only [Pt.U, Pt.locs, Pt.cells, Pt.slots] at X' e1 e2 h1 h2 h3 st hcl
    subst h1; subst h2; subst h3
    exact Or.inr ⟨q, (T.setVm vm₁).calling g' mk (Value.ref b :: As).toArray, t, U', L, E, ce, hT, X', hL, e1, e2, hq, hce, hcv, vx_cls hW₁ hcl, st⟩
end VXIB
/-! ===== END ===== -/
/-! ===== BEGIN a private constructor of a nest mate that throws ===== -/
section VXIC
variable {p : Program} {l : Launch} {e : Env} {R : Room} {s : State} {m : MethodId} {args : Array Value} {below : List Frame} {meth : Method} {c : Code} {T : State} {locs : List Loc} {cells slots : Nat}
theorem vx_callIN (X : Stand p l e R s m args below meth c T locs cells slots) (hexec : p.tables.exec = Jvm.exec) {own : String} {index : Nat} {host : String} {y : MethodName} {bytes : ByteArray} {maxL : Nat}
    (hown : s.vm.findClass own = some m.cls) (hy1 : y.name = "<init>") (hlink : (Cond.methodLinkNest own index y host).before args s = true) (hinst : (Cond.instanceMethod y).before args s = true)
    (hcode : (Cond.code y bytes maxL none).before args s = true) (hy : y.cls ≠ "java/lang/invoke/MethodHandle" ∧ y.cls ≠ "java/lang/invoke/VarHandle")
    {W9 : Nat} {Pre : Pt → Array Value → Prop} {Post : Pt → Array Value → Option Value → Pt → Prop} {PostX : Pt → Array Value → Addr → Pt → Prop} (hK : vx_Back l R p e below s args y 3 W9 Pre Post PostX)
    {g : JFrame} (hg : g.method = m) (hsize : g.locals.size = c.maxLocals) {a : Addr} {argsL rest : List Value} (hlen : ∀ sig, parseMethodDescriptor y.desc = some sig → argsL.length = sig.parameters.length)
    (hstack : g.stack = argsL.reverse ++ .ref a :: rest) (hW : 2 * g.monitorRoom + (rest.map fun v => v.category).sum ≤ W9) (hdg : decode c.code g.pc = .ok (.invokespecial index, 3))
    (hpre : ∀ vm₁, s.WarmedH vm₁ → Pre ⟨T.setVm vm₁, locs, cells, slots⟩ (Value.ref a :: argsL).toArray) :
    (∃ (v : Option Value) (vm₁ : Vm) (B : Pt), s.WarmedH vm₁ ∧ Stand p l e R s m args below meth c B.U B.locs B.cells B.slots ∧ Post ⟨T.setVm vm₁, locs, cells, slots⟩ (Value.ref a :: argsL).toArray v B ∧
      ∀ target, Steps p.tables e below (B.U.setTop { g with pc := g.pc + 3, stack := v.toList ++ rest }) target → Steps p.tables e below (T.setTop g) target) ∨
    (∃ (q : Addr) (vm₁ : Vm) (B : Pt), s.WarmedH vm₁ ∧ Stand p l e R s m args below meth c B.U B.locs B.cells B.slots ∧ PostX ⟨T.setVm vm₁, locs, cells, slots⟩ (Value.ref a :: argsL).toArray q B ∧
      Steps p.tables e below (T.setTop g) ((B.U.setTop { g with stack := rest }).pushFrame (.throwing q))) := by
  subst hg
  have hpl : e.platform.magicAccessors = ({} : Platform).magicAccessors := by rw [X.admits.platform]
  obtain ⟨mk, methM, cM, kP, vm₁, hnamed, hmethM, hcodeM, -, hlocalsM, -, hkP, -, hW₁, hstep₁⟩ := Steps.initColdArgsNest (e := e) X.here hexec X.warmed hpl hown hy1 hy hlink hinst hcode (f := g) rfl hlen hstack hdg
  have X₁ := X.noted hW₁
  rcases hK g.method meth c ⟨T.setVm vm₁, locs, cells, slots⟩ { g with stack := rest } (.invokespecial index) mk (Value.ref a :: argsL).toArray X₁ rfl hsize hdg hW (X₁.named hnamed) (hpre vm₁ X₁.warmed) with ⟨v, B, X', hpost, hsteps⟩ | ⟨q, B, X', hpost, hsteps⟩
  · exact Or.inl ⟨v, vm₁, B, X₁.warmed, X', hpost, fun target h => hstep₁ _ fun acts => by rw [doInvoke_state]; exact hsteps.trans h⟩
  · exact Or.inr ⟨q, vm₁, B, X₁.warmed, X', hpost, hstep₁ _ fun acts => by rw [doInvoke_state]; exact hsteps⟩
end VXIC
section VXID
variable {p : Program} {l : Launch} {e : Env} {R : Room} {s : State} {m : MethodId} {args : Array Value} {below : List Frame} {meth : Method} {c : Code} {H : Heap} {locs : List Loc} {cells slots : Nat}
theorem vx_runIN {y : MethodName} {bytes cc : ByteArray} {maxL nL mc ms n index : Nat} {ws : List Cond} {rm : Room} {Pc : Array Value → State → Prop} {Qc : Array Value → State → Outcome → State → Prop} {XC : String → State → State → Prop} {free : Addr → Prop} {Ts : List Cond} {own host : String} {b : Addr} {As rest : List Value} {g : JFrame}
    (S : CallFix p m c cc nL s args Ts own) (hM : vx_Met l y ws rm Pc Qc XC mc ms free) (cw : va_CN R s args own index y host bytes maxL none ws rm mc ms n ∧ y.name = "<init>" ∧ (Cond.instanceMethod y).before args s = true) (hp : PreS s H Pc (.ref b :: As))
    (hg : g.method = m) (hn : As.length = n) (hsize : g.locals.size = nL) (hstack : g.stack = As.reverse ++ .ref b :: rest) (hW : 2 * g.monitorRoom + (rest.map fun v => v.category).sum ≤ 8) (hdg : decode cc g.pc = .ok (.invokespecial index, 3)) (hf : cells + mc ≤ R.cells ∧ slots + ms ≤ R.slots) :
    vx_Run p l e R s m args below meth c H locs cells slots mc ms g rest (Qc (Value.ref b :: As).toArray) XC free := by
  obtain ⟨⟨⟨hrc, hrs, hfr, hlo, hws, hcw⟩, hcode, hini, hy, hlen, hl⟩, hx1, hx2⟩ := cw
  have hK : vx_Back l R p e below s args y 3 8 (PreOf R mc ms Pc) (PostOf Qc mc ms free) (vx_Post XC mc ms free) := vx_back (bytes := bytes) (maxL := maxL) (ret := none) hM hp.1 hrc hrs hfr hlo hws hcw (fun a' U hW => word_at hW (Or.inl (by first | rfl | simp [Cond.onTables, Cond.keeps, Cond.steady])) hini)
  obtain ⟨hx, hb, hml, ho, -⟩ := S
  have hPc := hp.2
  intro T hT X
  rcases vx_callIN X hx (bytes := bytes) (maxL := maxL) ho hx1 hl hx2 hcode hy hK hg (hsize.trans hml.symm) (a := b) (argsL := As) (rest := rest) (fun sig h => hn.trans (hlen sig h)) hstack hW (by rw [hb]; exact hdg)
    (fun vm₁ hW₁ => ⟨hf.1, hf.2, hPc (T.setVm vm₁) hT hW₁⟩) with ⟨v, vm₁, ⟨U', l2, c2, s2⟩, hW₁, X', ⟨g', mk, t, L, e1, e2, hq, h1, hL, h2, h3⟩, st⟩ | ⟨q, vm₁, ⟨U', l2, c2, s2⟩, hW₁, X', ⟨g', mk, t, L, E, ce, e1, e2, hq, hce, hcv, hcl, h1, hL, h2, h3⟩, st⟩
  · dsimp only [Pt.U, Pt.locs, Pt.cells, Pt.slots] at X' e1 e2 h1 h2 h3 st
    subst h1; subst h2; subst h3
    exact Or.inl ⟨v, (T.setVm vm₁).calling g' mk (Value.ref b :: As).toArray, t, U', L, hT, X', hL, e1, e2, hq, st⟩
  · dsimp only [Pt.U, Pt.locs, Pt.cells, Pt.slots] at X' e1 e2 h1 h2 h3 st hcl
    subst h1; subst h2; subst h3
    exact Or.inr ⟨q, (T.setVm vm₁).calling g' mk (Value.ref b :: As).toArray, t, U', L, E, ce, hT, X', hL, e1, e2, hq, hce, hcv, vx_cls hW₁ hcl, st⟩
end VXID
/-! ===== END ===== -/
/-! ===== BEGIN a private method of a nest mate that may throw (follows va_callVN, va_callSN, va_runVN, va_runSN) ===== -/
section
variable {p : Program} {l : Launch} {e : Env} {R : Room} {s : State} {m : MethodId} {args : Array Value} {below : List Frame} {meth : Method} {c : Code} {H : Heap} {locs : List Loc} {cells slots : Nat}
variable {T : State}
theorem vx_callVN (X : Stand p l e R s m args below meth c T locs cells slots) (hexec : p.tables.exec = Jvm.exec) {own C : String} {index : Nat} {host : String} {y : MethodName} {bytes : ByteArray} {maxL : Nat} {ret : Option FieldType}
    (hown : s.vm.findClass own = some m.cls) (hlink : (Cond.methodLinkNest own index y host).before args s = true) (hinst : (Cond.instanceMethod y).before args s = true) (hsel : (Cond.selects C y y).before args s = true)
    (hcode : (Cond.code y bytes maxL ret).before args s = true) (hy : y.cls ≠ "java/lang/invoke/MethodHandle" ∧ y.cls ≠ "java/lang/invoke/VarHandle")
    {W : Nat} {Pre : Pt → Array Value → Prop} {Post : Pt → Array Value → Option Value → Pt → Prop} {PostX : Pt → Array Value → Addr → Pt → Prop} (hK : vx_Back l R p e below s args y 3 W Pre Post PostX)
    {b : Addr} {cellB : Cell} (hcell : T.heap[b]? = some cellB) (hobj : cellB.vm.isStatics = false) (hcls : s.vm.findClass C = some cellB.cls)
    {g : JFrame} (hg : g.method = m) (hsize : g.locals.size = c.maxLocals) {argsL rest : List Value} (hlen : ∀ sig, parseMethodDescriptor y.desc = some sig → argsL.length = sig.parameters.length)
    (hstack : g.stack = argsL.reverse ++ .ref b :: rest) (hW : 2 * g.monitorRoom + (rest.map fun v => v.category).sum ≤ W) (hdg : decode c.code g.pc = .ok (.invokevirtual index, 3))
    (hpre : ∀ vm₁, s.WarmedH vm₁ → Pre ⟨T.setVm vm₁, locs, cells, slots⟩ (Value.ref b :: argsL).toArray) :
    (∃ (v : Option Value) (vm₁ : Vm) (B : Pt), s.WarmedH vm₁ ∧ Stand p l e R s m args below meth c B.U B.locs B.cells B.slots ∧ Post ⟨T.setVm vm₁, locs, cells, slots⟩ (Value.ref b :: argsL).toArray v B ∧
      ∀ target, Steps p.tables e below (B.U.setTop { g with pc := g.pc + 3, stack := v.toList ++ rest }) target → Steps p.tables e below (T.setTop g) target) ∨
    (∃ (q : Addr) (vm₁ : Vm) (B : Pt), s.WarmedH vm₁ ∧ Stand p l e R s m args below meth c B.U B.locs B.cells B.slots ∧ PostX ⟨T.setVm vm₁, locs, cells, slots⟩ (Value.ref b :: argsL).toArray q B ∧
      Steps p.tables e below (T.setTop g) ((B.U.setTop { g with stack := rest }).pushFrame (.throwing q))) := by
  obtain ⟨mk, methM, hnamed, hmethM, hstM, habM⟩ := Cond.instanceMethod_spec hinst
  obtain ⟨methM', cM, hmethM', -, -, -, -, -, -, hsigM⟩ := Cond.code_spec hnamed hcode
  cases hmethM.symm.trans hmethM'
  obtain ⟨c2, r2, m2, q1, q2, q3, q4, kP, hkP, hkPi⟩ := Cond.selects_spec hsel
  cases hcls.symm.trans q1
  cases (State.methodFound?_of_named hnamed hy).symm.trans q2
  cases hnamed.symm.trans q3
  have hselP : selectMethod e.platform s.vm cellB.cls mk = .method mk := by rw [Launch.admits_selectMethod X.admits]; exact q4
  obtain ⟨vm₁, X₁, hstep₁⟩ := X.invokevirtualNest hexec hown hlink hnamed hmethM hstM hkP hkPi hy (a := b) (cell := cellB) hcell
    (fun z h => by rw [h] at hobj; cases hobj) hselP hmethM habM hkP hkPi (g := g) hg (argsL := argsL) (rest := rest) (hlen _ hsigM) hstack hdg
  rcases hK m meth c ⟨T.setVm vm₁, locs, cells, slots⟩ { g with stack := rest } (.invokevirtual index) mk (Value.ref b :: argsL).toArray X₁ hg hsize hdg hW (X₁.named hnamed) (hpre vm₁ X₁.warmed) with ⟨v, B, X', hpost, hsteps⟩ | ⟨q, B, X', hpost, hsteps⟩
  · exact Or.inl ⟨v, vm₁, B, X₁.warmed, X', hpost, fun target h => hstep₁ _ fun acts => by rw [doInvoke_state]; exact hsteps.trans h⟩
  · exact Or.inr ⟨q, vm₁, B, X₁.warmed, X', hpost, hstep₁ _ fun acts => by rw [doInvoke_state]; exact hsteps⟩
theorem vx_callSN (X : Stand p l e R s m args below meth c T locs cells slots) (hexec : p.tables.exec = Jvm.exec) {own : String} {index : Nat} {host : String} {y : MethodName} {bytes : ByteArray} {maxL : Nat} {ret : Option FieldType}
    (hown : s.vm.findClass own = some m.cls) (hlink : (Cond.methodLinkNest own index y host).before args s = true) (hstat : (Cond.static y).before args s = true) (hinit : (Cond.initialized y.cls).before args s = true)
    (hcode : (Cond.code y bytes maxL ret).before args s = true) (hy : y.cls ≠ "java/lang/invoke/MethodHandle" ∧ y.cls ≠ "java/lang/invoke/VarHandle")
    {W : Nat} {Pre : Pt → Array Value → Prop} {Post : Pt → Array Value → Option Value → Pt → Prop} {PostX : Pt → Array Value → Addr → Pt → Prop} (hK : vx_Back l R p e below s args y 3 W Pre Post PostX)
    {g : JFrame} (hg : g.method = m) (hsize : g.locals.size = c.maxLocals) {argsL rest : List Value} (hlen : ∀ sig, parseMethodDescriptor y.desc = some sig → argsL.length = sig.parameters.length)
    (hstack : g.stack = argsL.reverse ++ rest) (hW : 2 * g.monitorRoom + (rest.map fun v => v.category).sum ≤ W) (hdg : decode c.code g.pc = .ok (.invokestatic index, 3))
    (hpre : ∀ vm₁, s.WarmedH vm₁ → Pre ⟨T.setVm vm₁, locs, cells, slots⟩ argsL.toArray) :
    (∃ (v : Option Value) (vm₁ : Vm) (B : Pt), s.WarmedH vm₁ ∧ Stand p l e R s m args below meth c B.U B.locs B.cells B.slots ∧ Post ⟨T.setVm vm₁, locs, cells, slots⟩ argsL.toArray v B ∧
      ∀ target, Steps p.tables e below (B.U.setTop { g with pc := g.pc + 3, stack := v.toList ++ rest }) target → Steps p.tables e below (T.setTop g) target) ∨
    (∃ (q : Addr) (vm₁ : Vm) (B : Pt), s.WarmedH vm₁ ∧ Stand p l e R s m args below meth c B.U B.locs B.cells B.slots ∧ PostX ⟨T.setVm vm₁, locs, cells, slots⟩ argsL.toArray q B ∧
      Steps p.tables e below (T.setTop g) ((B.U.setTop { g with stack := rest }).pushFrame (.throwing q))) := by
  obtain ⟨mk, hnamed⟩ := Cond.code_named hcode
  obtain ⟨methM, cM, hmethM, -, -, -, -, -, -, hsigM⟩ := Cond.code_spec hnamed hcode
  have hstatic : methM.isStatic = true := Cond.static_spec hnamed hmethM hstat
  obtain ⟨kP, hkP, -⟩ := className_of_methodNamed hnamed
  have hinitP : kP.init = .initialized := Cond.initialized_spec (findClass_of_methodNamed hnamed) hkP hinit
  obtain ⟨vm₁, X₁, hstep₁⟩ := X.invokestaticNest hexec hown hlink hnamed hmethM hstatic hkP hinitP hy (g := g) hg (argsL := argsL) (rest := rest) (hlen _ hsigM) hstack hdg
  rcases hK m meth c ⟨T.setVm vm₁, locs, cells, slots⟩ { g with stack := rest } (.invokestatic index) mk argsL.toArray X₁ hg hsize hdg hW (X₁.named hnamed) (hpre vm₁ X₁.warmed) with ⟨v, B, X', hpost, hsteps⟩ | ⟨q, B, X', hpost, hsteps⟩
  · exact Or.inl ⟨v, vm₁, B, X₁.warmed, X', hpost, fun target h => hstep₁ _ fun acts => by rw [doInvoke_state]; exact hsteps.trans h⟩
  · exact Or.inr ⟨q, vm₁, B, X₁.warmed, X', hpost, hstep₁ _ fun acts => by rw [doInvoke_state]; exact hsteps⟩
theorem vx_runVN {y : MethodName} {bytes cc : ByteArray} {maxL nL mc ms n index : Nat} {ret : Option FieldType} {ws : List Cond} {rm : Room} {Pc : Array Value → State → Prop} {Qc : Array Value → State → Outcome → State → Prop} {XC : String → State → State → Prop} {free : Addr → Prop} {Ts : List Cond} {own C host : String} {b : Addr} {As rest : List Value} {g : JFrame}
    (S : CallFix p m c cc nL s args Ts own) (hM : vx_Met l y ws rm Pc Qc XC mc ms free) (cw : va_CN R s args own index y host bytes maxL ret ws rm mc ms n ∧ (Cond.instanceMethod y).before args s = true ∧ (Cond.selects C y y).before args s = true) (hp : PreV s H C b Pc As)
    (hg : g.method = m) (hn : As.length = n) (hsize : g.locals.size = nL) (hstack : g.stack = As.reverse ++ .ref b :: rest) (hW : 2 * g.monitorRoom + (rest.map fun v => v.category).sum ≤ 8) (hdg : decode cc g.pc = .ok (.invokevirtual index, 3)) (hf : cells + mc ≤ R.cells ∧ slots + ms ≤ R.slots) :
    vx_Run p l e R s m args below meth c H locs cells slots mc ms g rest (Qc (Value.ref b :: As).toArray) XC free := by
  obtain ⟨⟨⟨hrc, hrs, hfr, hlo, hws, hcw⟩, hcode, hini, hy, hlen, hl⟩, hx1, hx2⟩ := cw
  have hK : vx_Back l R p e below s args y 3 8 (PreOf R mc ms Pc) (PostOf Qc mc ms free) (vx_Post XC mc ms free) := vx_back (bytes := bytes) (maxL := maxL) (ret := ret) hM hp.1 hrc hrs hfr hlo hws hcw (fun a' U hW => word_at hW (Or.inl (by first | rfl | simp [Cond.onTables, Cond.keeps, Cond.steady])) hini)
  obtain ⟨hx, hb, hml, ho, -⟩ := S
  obtain ⟨-, ⟨cellB, hcB, hoB, hclB⟩, hPc⟩ := hp
  intro T hT X
  rcases vx_callVN X hx (C := C) (bytes := bytes) (maxL := maxL) (ret := ret) ho hl hx1 hx2 hcode hy hK (by rw [hT]; exact hcB) hoB hclB hg (hsize.trans hml.symm) (argsL := As) (rest := rest) (fun sig h => hn.trans (hlen sig h)) hstack hW (by rw [hb]; exact hdg)
    (fun vm₁ hW₁ => ⟨hf.1, hf.2, hPc (T.setVm vm₁) hT hW₁⟩) with ⟨v, vm₁, ⟨U', l2, c2, s2⟩, hW₁, X', ⟨g', mk, t, L, e1, e2, hq, h1, hL, h2, h3⟩, st⟩ | ⟨q, vm₁, ⟨U', l2, c2, s2⟩, hW₁, X', ⟨g', mk, t, L, E, ce, e1, e2, hq, hce, hcv, hcl, h1, hL, h2, h3⟩, st⟩
  · dsimp only [Pt.U, Pt.locs, Pt.cells, Pt.slots] at X' e1 e2 h1 h2 h3 st
    subst h1; subst h2; subst h3
    exact Or.inl ⟨v, (T.setVm vm₁).calling g' mk (Value.ref b :: As).toArray, t, U', L, hT, X', hL, e1, e2, hq, st⟩
  · dsimp only [Pt.U, Pt.locs, Pt.cells, Pt.slots] at X' e1 e2 h1 h2 h3 st hcl
    subst h1; subst h2; subst h3
    exact Or.inr ⟨q, (T.setVm vm₁).calling g' mk (Value.ref b :: As).toArray, t, U', L, E, ce, hT, X', hL, e1, e2, hq, hce, hcv, vx_cls hW₁ hcl, st⟩
theorem vx_runSN {y : MethodName} {bytes cc : ByteArray} {maxL nL mc ms n index : Nat} {ret : Option FieldType} {ws : List Cond} {rm : Room} {Pc : Array Value → State → Prop} {Qc : Array Value → State → Outcome → State → Prop} {XC : String → State → State → Prop} {free : Addr → Prop} {Ts : List Cond} {own host : String} {As rest : List Value} {g : JFrame}
    (S : CallFix p m c cc nL s args Ts own) (hM : vx_Met l y ws rm Pc Qc XC mc ms free) (cw : va_CN R s args own index y host bytes maxL ret ws rm mc ms n ∧ (Cond.static y).before args s = true ∧ True) (hp : PreS s H Pc As)
    (hg : g.method = m) (hn : As.length = n) (hsize : g.locals.size = nL) (hstack : g.stack = As.reverse ++ rest) (hW : 2 * g.monitorRoom + (rest.map fun v => v.category).sum ≤ 8) (hdg : decode cc g.pc = .ok (.invokestatic index, 3)) (hf : cells + mc ≤ R.cells ∧ slots + ms ≤ R.slots) :
    vx_Run p l e R s m args below meth c H locs cells slots mc ms g rest (Qc As.toArray) XC free := by
  obtain ⟨⟨⟨hrc, hrs, hfr, hlo, hws, hcw⟩, hcode, hini, hy, hlen, hl⟩, hx1, hx2⟩ := cw
  have hK : vx_Back l R p e below s args y 3 8 (PreOf R mc ms Pc) (PostOf Qc mc ms free) (vx_Post XC mc ms free) := vx_back (bytes := bytes) (maxL := maxL) (ret := ret) hM hp.1 hrc hrs hfr hlo hws hcw (fun a' U hW => word_at hW (Or.inl (by first | rfl | simp [Cond.onTables, Cond.keeps, Cond.steady])) hini)
  obtain ⟨hx, hb, hml, ho, -⟩ := S
  have hPc := hp.2
  intro T hT X
  rcases vx_callSN X hx (bytes := bytes) (maxL := maxL) (ret := ret) ho hl hx1 hini hcode hy hK hg (hsize.trans hml.symm) (argsL := As) (rest := rest) (fun sig h => hn.trans (hlen sig h)) hstack hW (by rw [hb]; exact hdg)
    (fun vm₁ hW₁ => ⟨hf.1, hf.2, hPc (T.setVm vm₁) hT hW₁⟩) with ⟨v, vm₁, ⟨U', l2, c2, s2⟩, hW₁, X', ⟨g', mk, t, L, e1, e2, hq, h1, hL, h2, h3⟩, st⟩ | ⟨q, vm₁, ⟨U', l2, c2, s2⟩, hW₁, X', ⟨g', mk, t, L, E, ce, e1, e2, hq, hce, hcv, hcl, h1, hL, h2, h3⟩, st⟩
  · dsimp only [Pt.U, Pt.locs, Pt.cells, Pt.slots] at X' e1 e2 h1 h2 h3 st
    subst h1; subst h2; subst h3
    exact Or.inl ⟨v, (T.setVm vm₁).calling g' mk As.toArray, t, U', L, hT, X', hL, e1, e2, hq, st⟩
  · dsimp only [Pt.U, Pt.locs, Pt.cells, Pt.slots] at X' e1 e2 h1 h2 h3 st hcl
    subst h1; subst h2; subst h3
    exact Or.inr ⟨q, (T.setVm vm₁).calling g' mk As.toArray, t, U', L, E, ce, hT, X', hL, e1, e2, hq, hce, hcv, vx_cls hW₁ hcl, st⟩
end
/-! ===== END ===== -/
/-! ===== BEGIN calls by an interface of methods that may throw (vx_callIF, vx_runF follow va_callIF, va_runF of this kit) ===== -/
section
variable {p : Program} {l : Launch} {e : Env} {R : Room} {s : State} {m : MethodId} {args : Array Value} {below : List Frame} {meth : Method} {c : Code} {H : Heap} {locs : List Loc} {cells slots : Nat} {Q : State → Prop}
variable {mc ms : Nat} {free : Addr → Prop} {A0 A1 : Nat → Prop} {H0 : Heap} {a : Array Value} {pc : Nat} {ls : Array Slot} {st0 rest : List Value}
def vx_Run5 (p : Program) (l : Launch) (e : Env) (R : Room) (s : State) (m : MethodId) (args : Array Value) (below : List Frame) (meth : Method) (c : Code) (H : Heap) (locs : List Loc) (cells slots mc ms : Nat) (g : JFrame) (rest : List Value) (Qa : State → Outcome → State → Prop) (XC : String → State → State → Prop) (free : Addr → Prop) : Prop :=
  ∀ T : State, T.heap = H → Stand p l e R s m args below meth c T locs cells slots →
    (∃ (v : Option Value) (st₀ t T' : State) (L : List Loc), st₀.heap = H ∧ Stand p l e R s m args below meth c T' (locs ++ L) (cells + mc) (slots + ms) ∧ (∀ q ∈ L, free q.base) ∧ T'.heap = t.heap ∧ T'.vm = t.vm ∧ Qa st₀ (.returned v) t ∧
      Goes p e below T g T' { g with pc := g.pc + 5, stack := v.toList ++ rest }) ∨
    (∃ (q : Addr) (st₀ t T' : State) (L : List Loc) (E : String) (ce : Cell), st₀.heap = H ∧ Stand p l e R s m args below meth c T' (locs ++ L) (cells + mc) (slots + ms) ∧ (∀ z ∈ L, free z.base) ∧ T'.heap = t.heap ∧ T'.vm = t.vm ∧ XC E st₀ t ∧ t.heap[q]? = some ce ∧ ce.vm = .none ∧ s.vm.findClass E = some ce.cls ∧
      Steps p.tables e below (T.setTop g) ((T'.setTop { g with stack := rest }).pushFrame (.throwing q)))
theorem vx_callIF {T : State} (X : Stand p l e R s m args below meth c T locs cells slots) (hexec : p.tables.exec = Jvm.exec) {own C : String} {index count : Nat} {x y : MethodName} {bytes : ByteArray} {maxL : Nat} {ret : Option FieldType}
    (hown : s.vm.findClass own = some m.cls) (hlink : (Cond.methodLink own index x).before args s = true) (hdecl : (Cond.declares x).before args s = true) (hface : (Cond.interfaceMethod x.cls x.cls x.name x.desc).before args s = true)
    (hsel : (Cond.selects C x y).before args s = true) (hinst : (Cond.instanceMethod y).before args s = true) (hpub : (Cond.publicMethod y).before args s = true) (hunh : (Cond.unhidden C x.name x.desc).before args s = true)
    (hcast : (Cond.castable C x.cls).before args s = true) (hcode : (Cond.code y bytes maxL ret).before args s = true) (hx : x.cls ≠ "java/lang/invoke/MethodHandle" ∧ x.cls ≠ "java/lang/invoke/VarHandle")
    {W9 : Nat} {Pre : Pt → Array Value → Prop} {Post : Pt → Array Value → Option Value → Pt → Prop} {PostX : Pt → Array Value → Addr → Pt → Prop} (hK : vx_Back l R p e below s args y 5 W9 Pre Post PostX)
    {b : Addr} {cellB : Cell} {kB : Class} (hcell : T.heap[b]? = some cellB) (hobj : cellB.vm.isStatics = false) (hcls : s.vm.findClass C = some cellB.cls) (hkB : s.vm.classes[cellB.cls]? = some kB)
    {g : JFrame} (hg : g.method = m) (hsize : g.locals.size = c.maxLocals) {argsL rest : List Value} (hlen : ∀ sig, parseMethodDescriptor x.desc = some sig → argsL.length = sig.parameters.length)
    (hstack : g.stack = argsL.reverse ++ .ref b :: rest) (hW : 2 * g.monitorRoom + (rest.map fun v => v.category).sum ≤ W9) (hdg : decode c.code g.pc = .ok (.invokeinterface index count, 5))
    (hpre : ∀ vm₁, s.WarmedH vm₁ → Pre ⟨T.setVm vm₁, locs, cells, slots⟩ (Value.ref b :: argsL).toArray) :
    (∃ (v : Option Value) (vm₁ : Vm) (B : Pt), s.WarmedH vm₁ ∧ Stand p l e R s m args below meth c B.U B.locs B.cells B.slots ∧ Post ⟨T.setVm vm₁, locs, cells, slots⟩ (Value.ref b :: argsL).toArray v B ∧
      ∀ target, Steps p.tables e below (B.U.setTop { g with pc := g.pc + 5, stack := v.toList ++ rest }) target → Steps p.tables e below (T.setTop g) target) ∨
    (∃ (q : Addr) (vm₁ : Vm) (B : Pt), s.WarmedH vm₁ ∧ Stand p l e R s m args below meth c B.U B.locs B.cells B.slots ∧ PostX ⟨T.setVm vm₁, locs, cells, slots⟩ (Value.ref b :: argsL).toArray q B ∧
      Steps p.tables e below (T.setTop g) ((B.U.setTop { g with stack := rest }).pushFrame (.throwing q))) := by
  obtain ⟨r0, r, hn, hrm, hstR, hsigR⟩ := Cond.declares_spec hdecl
  obtain ⟨cL, kL, r1, hcL, hkL, hiL, hfoundL, hn1⟩ := Cond.interfaceMethod_spec hface
  cases hn.symm.trans hn1
  have hr0cls : r0.cls = cL := Option.some.inj ((findClass_of_methodNamed hn).symm.trans hcL)
  obtain ⟨hnameR, hdescR⟩ := name_of_methodNamed hn hrm
  obtain ⟨mk, methM, hnamed, hmethM, -, habM⟩ := Cond.instanceMethod_spec hinst
  obtain ⟨c2, r2, m2, q1, q2, q3, q4, -⟩ := Cond.selects_spec hsel
  cases hcls.symm.trans q1
  cases hfoundL.symm.trans q2
  cases hnamed.symm.trans q3
  have hselP : selectMethod e.platform s.vm cellB.cls r0 = .method mk := by rw [Launch.admits_selectMethod X.admits]; exact q4
  have hpubM : hasFlag methM.accessFlags Acc.public_ = true := Cond.publicMethod_spec hnamed hmethM hpub
  have hway : ((cellB.cls :: s.vm.superclasses cellB.cls).any fun k => (declaredIn s.vm r.name r.desc k).any fun (_, z) => z.isPrivate || z.isStatic) = false := by
    rw [hnameR, hdescR]; exact Cond.unhidden_spec hcls hunh
  obtain ⟨c3, t3, w1, w2, w3⟩ := Cond.castable_spec hcast
  cases hcls.symm.trans w1
  cases hcL.symm.trans w2
  obtain ⟨vm₁, X₁, hstep₁⟩ := X.invokeinterface hexec hown hlink hn hrm hstR (by rw [hr0cls]; exact hkL) hiL hx (a := b) (cell := cellB) (kcell := kB) hcell
    (fun z h => by rw [h] at hobj; cases hobj) hkB (by rw [hr0cls]; exact w3) hselP hmethM hway hpubM habM (g := g) hg (argsL := argsL) (rest := rest) (hlen _ hsigR) hstack hdg
  rcases hK m meth c ⟨T.setVm vm₁, locs, cells, slots⟩ { g with stack := rest } (.invokeinterface index count) mk (Value.ref b :: argsL).toArray X₁ hg hsize hdg hW (X₁.named hnamed) (hpre vm₁ X₁.warmed) with ⟨v, B, X', hpost, hsteps⟩ | ⟨q, B, X', hpost, hsteps⟩
  · exact Or.inl ⟨v, vm₁, B, X₁.warmed, X', hpost, fun target h => hstep₁ _ fun acts => by rw [doInvoke_state]; exact hsteps.trans h⟩
  · exact Or.inr ⟨q, vm₁, B, X₁.warmed, X', hpost, hstep₁ _ fun acts => by rw [doInvoke_state]; exact hsteps⟩
theorem vx_runF {x y : MethodName} {bytes cc : ByteArray} {maxL nL mc ms n index count : Nat} {ret : Option FieldType} {ws : List Cond} {rm : Room} {Pc : Array Value → State → Prop} {Qc : Array Value → State → Outcome → State → Prop} {XC : String → State → State → Prop} {free : Addr → Prop} {Ts : List Cond} {own C : String} {cC : ClassId} {b : Addr} {As rest : List Value} {g : JFrame}
    (hat : ClassAt s C cC) (S : CallFix p m c cc nL s args Ts own) (hM : vx_Met l y ws rm Pc Qc XC mc ms free) (cw : va_CI R s args own C index x y bytes maxL ret ws rm mc ms n) (hp : PreV s H C b Pc As)
    (hg : g.method = m) (hn : As.length = n) (hsize : g.locals.size = nL) (hstack : g.stack = As.reverse ++ .ref b :: rest) (hW : 2 * g.monitorRoom + (rest.map fun v => v.category).sum ≤ 8) (hdg : decode cc g.pc = .ok (.invokeinterface index count, 5)) (hf : cells + mc ≤ R.cells ∧ slots + ms ≤ R.slots) :
    vx_Run5 p l e R s m args below meth c H locs cells slots mc ms g rest (Qc (Value.ref b :: As).toArray) XC free := by
  obtain ⟨hrc, hrs, hfr, hlo, hws, hcw⟩ := cw.back
  have hini := cw.init
  have hK : vx_Back l R p e below s args y 5 8 (PreOf R mc ms Pc) (PostOf Qc mc ms free) (vx_Post XC mc ms free) := vx_back (bytes := bytes) (maxL := maxL) (ret := ret) hM hp.1 hrc hrs hfr hlo hws hcw (fun a' U hW => word_at hW (Or.inl (by first | rfl | simp [Cond.onTables, Cond.keeps, Cond.steady])) hini)
  obtain ⟨hx, hb, hml, ho, -⟩ := S
  obtain ⟨-, ⟨cellB, hcB, hoB, hclB⟩, hPc⟩ := hp
  obtain ⟨hfc, kB, hkB, -⟩ := hat
  cases hfc.symm.trans hclB
  intro T hT X
  rcases vx_callIF X hx (C := C) (bytes := bytes) (maxL := maxL) (ret := ret) ho cw.link cw.decl cw.face cw.sel cw.inst cw.pub cw.unh cw.cast cw.code cw.notMH hK (by rw [hT]; exact hcB) hoB hclB hkB hg (hsize.trans hml.symm) (argsL := As) (rest := rest) (fun sig h => hn.trans (cw.len sig h)) hstack hW (by rw [hb]; exact hdg)
    (fun vm₁ hW₁ => ⟨hf.1, hf.2, hPc (T.setVm vm₁) hT hW₁⟩) with ⟨v, vm₁, ⟨U', l2, c2, s2⟩, hW₁, X', ⟨g', mk, t, L, e1, e2, hq, h1, hL, h2, h3⟩, st⟩ | ⟨q, vm₁, ⟨U', l2, c2, s2⟩, hW₁, X', ⟨g', mk, t, L, E, ce, e1, e2, hq, hce, hcv, hcl, h1, hL, h2, h3⟩, st⟩
  · dsimp only [Pt.U, Pt.locs, Pt.cells, Pt.slots] at X' e1 e2 h1 h2 h3 st
    subst h1; subst h2; subst h3
    exact Or.inl ⟨v, (T.setVm vm₁).calling g' mk (Value.ref b :: As).toArray, t, U', L, hT, X', hL, e1, e2, hq, st⟩
  · dsimp only [Pt.U, Pt.locs, Pt.cells, Pt.slots] at X' e1 e2 h1 h2 h3 st hcl
    subst h1; subst h2; subst h3
    exact Or.inr ⟨q, (T.setVm vm₁).calling g' mk (Value.ref b :: As).toArray, t, U', L, E, ce, hT, X', hL, e1, e2, hq, hce, hcv, vx_cls hW₁ hcl, st⟩
theorem vx_callFv {S SX : Type} {post : S → Prop} {px : SX → Prop} {B : S → State → Prop} {BX : String → SX → State → Prop} {AX : Nat → Prop} (hr : vx_Run5 p l e R s m args below meth c H locs cells slots mc ms (F0 m pc ls st0) rest (va_Qv post B A1 a) (vx_X px BX AX) free) (hS : va_S A0 H0 H locs) (hA : ∀ q, q < H.size → A1 q → A0 q) (hf : ∀ q, free q → A0 q) (hAX : ∀ q, q < H.size → AX q → A0 q)
    (kx : ∀ (E : String) (ce : Cell) (q9 : Addr) (u : SX) (t : State) (H1 : Heap) (locs1 : List Loc), t.heap = H1 → s.vm.Alike t.vm → px u → BX E u t → H.size ≤ H1.size → (∀ q : Nat, q < H.size → ¬ AX q → H1[q]? = H[q]?) → va_S A0 H0 H1 locs1 → H1[q9]? = some ce → ce.vm = .none → s.vm.findClass E = some ce.cls → vx_W p l e R s m args below meth c H1 locs1 (cells + mc) (slots + ms) Q (F0 m pc ls rest) q9)
    (kk : ∀ (u : S) (t : State) (H1 : Heap) (locs1 : List Loc), t.heap = H1 → s.vm.Alike t.vm → post u → B u t → H.size ≤ H1.size → (∀ q : Nat, q < H.size → ¬ A1 q → H1[q]? = H[q]?) → va_S A0 H0 H1 locs1 → W p l e R s m args below meth c H1 locs1 (cells + mc) (slots + ms) Q (F0 m (pc + 5) ls (rest))) : W p l e R s m args below meth c H locs cells slots Q (F0 m pc ls st0) := by
  intro T hT X
  rcases hr T hT X with ⟨v, st₀, t, T', L, h0, X', hL, e1, e2, ⟨⟨u, hv, hp, hb⟩, hF⟩, st⟩ | ⟨q, st₀, t, T', L, E, ce, h0, X', hL, e1, e2, ⟨u, hp, hb, hF⟩, hce, hcv, hcl, st⟩
  · cases hv
    obtain ⟨k1, k2, k3⟩ := vx_keep h0 e1 hS hA hf hL hF
    obtain ⟨t2, a1, b1⟩ := kk u t T'.heap (locs ++ L) e1.symm (by rw [← e2]; exact X'.warmed.alike) hp hb k1 k2 k3 T' rfl X'
    exact ⟨t2, st t2 a1, b1⟩
  · obtain ⟨k1, k2, k3⟩ := vx_keep h0 e1 hS hAX hf hL hF
    obtain ⟨t2, a1, b1⟩ := kx E ce q u t T'.heap (locs ++ L) e1.symm (by rw [← e2]; exact X'.warmed.alike) hp hb k1 k2 k3 (by rw [e1]; exact hce) hcv hcl T' rfl X'
    exact ⟨t2, st.trans a1, b1⟩
theorem vx_callFi {S SX : Type} {post : Int32 → S → Prop} {px : SX → Prop} {B : S → State → Prop} {BX : String → SX → State → Prop} {AX : Nat → Prop} (hr : vx_Run5 p l e R s m args below meth c H locs cells slots mc ms (F0 m pc ls st0) rest (va_Qi post B A1 a) (vx_X px BX AX) free) (hS : va_S A0 H0 H locs) (hA : ∀ q, q < H.size → A1 q → A0 q) (hf : ∀ q, free q → A0 q) (hAX : ∀ q, q < H.size → AX q → A0 q)
    (kx : ∀ (E : String) (ce : Cell) (q9 : Addr) (u : SX) (t : State) (H1 : Heap) (locs1 : List Loc), t.heap = H1 → s.vm.Alike t.vm → px u → BX E u t → H.size ≤ H1.size → (∀ q : Nat, q < H.size → ¬ AX q → H1[q]? = H[q]?) → va_S A0 H0 H1 locs1 → H1[q9]? = some ce → ce.vm = .none → s.vm.findClass E = some ce.cls → vx_W p l e R s m args below meth c H1 locs1 (cells + mc) (slots + ms) Q (F0 m pc ls rest) q9)
    (kk : ∀ (r : Int32) (u : S) (t : State) (H1 : Heap) (locs1 : List Loc), t.heap = H1 → s.vm.Alike t.vm → post r u → B u t → H.size ≤ H1.size → (∀ q : Nat, q < H.size → ¬ A1 q → H1[q]? = H[q]?) → va_S A0 H0 H1 locs1 → W p l e R s m args below meth c H1 locs1 (cells + mc) (slots + ms) Q (F0 m (pc + 5) ls (.int r :: rest))) : W p l e R s m args below meth c H locs cells slots Q (F0 m pc ls st0) := by
  intro T hT X
  rcases hr T hT X with ⟨v, st₀, t, T', L, h0, X', hL, e1, e2, ⟨⟨r, u, hv, hp, hb⟩, hF⟩, st⟩ | ⟨q, st₀, t, T', L, E, ce, h0, X', hL, e1, e2, ⟨u, hp, hb, hF⟩, hce, hcv, hcl, st⟩
  · cases hv
    obtain ⟨k1, k2, k3⟩ := vx_keep h0 e1 hS hA hf hL hF
    obtain ⟨t2, a1, b1⟩ := kk r u t T'.heap (locs ++ L) e1.symm (by rw [← e2]; exact X'.warmed.alike) hp hb k1 k2 k3 T' rfl X'
    exact ⟨t2, st t2 a1, b1⟩
  · obtain ⟨k1, k2, k3⟩ := vx_keep h0 e1 hS hAX hf hL hF
    obtain ⟨t2, a1, b1⟩ := kx E ce q u t T'.heap (locs ++ L) e1.symm (by rw [← e2]; exact X'.warmed.alike) hp hb k1 k2 k3 (by rw [e1]; exact hce) hcv hcl T' rfl X'
    exact ⟨t2, st.trans a1, b1⟩
theorem vx_callFl {S SX : Type} {post : Int64 → S → Prop} {px : SX → Prop} {B : S → State → Prop} {BX : String → SX → State → Prop} {AX : Nat → Prop} (hr : vx_Run5 p l e R s m args below meth c H locs cells slots mc ms (F0 m pc ls st0) rest (va_Ql post B A1 a) (vx_X px BX AX) free) (hS : va_S A0 H0 H locs) (hA : ∀ q, q < H.size → A1 q → A0 q) (hf : ∀ q, free q → A0 q) (hAX : ∀ q, q < H.size → AX q → A0 q)
    (kx : ∀ (E : String) (ce : Cell) (q9 : Addr) (u : SX) (t : State) (H1 : Heap) (locs1 : List Loc), t.heap = H1 → s.vm.Alike t.vm → px u → BX E u t → H.size ≤ H1.size → (∀ q : Nat, q < H.size → ¬ AX q → H1[q]? = H[q]?) → va_S A0 H0 H1 locs1 → H1[q9]? = some ce → ce.vm = .none → s.vm.findClass E = some ce.cls → vx_W p l e R s m args below meth c H1 locs1 (cells + mc) (slots + ms) Q (F0 m pc ls rest) q9)
    (kk : ∀ (r : Int64) (u : S) (t : State) (H1 : Heap) (locs1 : List Loc), t.heap = H1 → s.vm.Alike t.vm → post r u → B u t → H.size ≤ H1.size → (∀ q : Nat, q < H.size → ¬ A1 q → H1[q]? = H[q]?) → va_S A0 H0 H1 locs1 → W p l e R s m args below meth c H1 locs1 (cells + mc) (slots + ms) Q (F0 m (pc + 5) ls (.long r :: rest))) : W p l e R s m args below meth c H locs cells slots Q (F0 m pc ls st0) := by
  intro T hT X
  rcases hr T hT X with ⟨v, st₀, t, T', L, h0, X', hL, e1, e2, ⟨⟨r, u, hv, hp, hb⟩, hF⟩, st⟩ | ⟨q, st₀, t, T', L, E, ce, h0, X', hL, e1, e2, ⟨u, hp, hb, hF⟩, hce, hcv, hcl, st⟩
  · cases hv
    obtain ⟨k1, k2, k3⟩ := vx_keep h0 e1 hS hA hf hL hF
    obtain ⟨t2, a1, b1⟩ := kk r u t T'.heap (locs ++ L) e1.symm (by rw [← e2]; exact X'.warmed.alike) hp hb k1 k2 k3 T' rfl X'
    exact ⟨t2, st t2 a1, b1⟩
  · obtain ⟨k1, k2, k3⟩ := vx_keep h0 e1 hS hAX hf hL hF
    obtain ⟨t2, a1, b1⟩ := kx E ce q u t T'.heap (locs ++ L) e1.symm (by rw [← e2]; exact X'.warmed.alike) hp hb k1 k2 k3 (by rw [e1]; exact hce) hcv hcl T' rfl X'
    exact ⟨t2, st.trans a1, b1⟩
theorem vx_callFf {S SX : Type} {post : UInt32 → S → Prop} {px : SX → Prop} {B : S → State → Prop} {BX : String → SX → State → Prop} {AX : Nat → Prop} (hr : vx_Run5 p l e R s m args below meth c H locs cells slots mc ms (F0 m pc ls st0) rest (va_Qf post B A1 a) (vx_X px BX AX) free) (hS : va_S A0 H0 H locs) (hA : ∀ q, q < H.size → A1 q → A0 q) (hf : ∀ q, free q → A0 q) (hAX : ∀ q, q < H.size → AX q → A0 q)
    (kx : ∀ (E : String) (ce : Cell) (q9 : Addr) (u : SX) (t : State) (H1 : Heap) (locs1 : List Loc), t.heap = H1 → s.vm.Alike t.vm → px u → BX E u t → H.size ≤ H1.size → (∀ q : Nat, q < H.size → ¬ AX q → H1[q]? = H[q]?) → va_S A0 H0 H1 locs1 → H1[q9]? = some ce → ce.vm = .none → s.vm.findClass E = some ce.cls → vx_W p l e R s m args below meth c H1 locs1 (cells + mc) (slots + ms) Q (F0 m pc ls rest) q9)
    (kk : ∀ (r : UInt32) (u : S) (t : State) (H1 : Heap) (locs1 : List Loc), t.heap = H1 → s.vm.Alike t.vm → post r u → B u t → H.size ≤ H1.size → (∀ q : Nat, q < H.size → ¬ A1 q → H1[q]? = H[q]?) → va_S A0 H0 H1 locs1 → W p l e R s m args below meth c H1 locs1 (cells + mc) (slots + ms) Q (F0 m (pc + 5) ls (.float r :: rest))) : W p l e R s m args below meth c H locs cells slots Q (F0 m pc ls st0) := by
  intro T hT X
  rcases hr T hT X with ⟨v, st₀, t, T', L, h0, X', hL, e1, e2, ⟨⟨r, u, hv, hp, hb⟩, hF⟩, st⟩ | ⟨q, st₀, t, T', L, E, ce, h0, X', hL, e1, e2, ⟨u, hp, hb, hF⟩, hce, hcv, hcl, st⟩
  · cases hv
    obtain ⟨k1, k2, k3⟩ := vx_keep h0 e1 hS hA hf hL hF
    obtain ⟨t2, a1, b1⟩ := kk r u t T'.heap (locs ++ L) e1.symm (by rw [← e2]; exact X'.warmed.alike) hp hb k1 k2 k3 T' rfl X'
    exact ⟨t2, st t2 a1, b1⟩
  · obtain ⟨k1, k2, k3⟩ := vx_keep h0 e1 hS hAX hf hL hF
    obtain ⟨t2, a1, b1⟩ := kx E ce q u t T'.heap (locs ++ L) e1.symm (by rw [← e2]; exact X'.warmed.alike) hp hb k1 k2 k3 (by rw [e1]; exact hce) hcv hcl T' rfl X'
    exact ⟨t2, st.trans a1, b1⟩
theorem vx_callFd {S SX : Type} {post : UInt64 → S → Prop} {px : SX → Prop} {B : S → State → Prop} {BX : String → SX → State → Prop} {AX : Nat → Prop} (hr : vx_Run5 p l e R s m args below meth c H locs cells slots mc ms (F0 m pc ls st0) rest (va_Qd post B A1 a) (vx_X px BX AX) free) (hS : va_S A0 H0 H locs) (hA : ∀ q, q < H.size → A1 q → A0 q) (hf : ∀ q, free q → A0 q) (hAX : ∀ q, q < H.size → AX q → A0 q)
    (kx : ∀ (E : String) (ce : Cell) (q9 : Addr) (u : SX) (t : State) (H1 : Heap) (locs1 : List Loc), t.heap = H1 → s.vm.Alike t.vm → px u → BX E u t → H.size ≤ H1.size → (∀ q : Nat, q < H.size → ¬ AX q → H1[q]? = H[q]?) → va_S A0 H0 H1 locs1 → H1[q9]? = some ce → ce.vm = .none → s.vm.findClass E = some ce.cls → vx_W p l e R s m args below meth c H1 locs1 (cells + mc) (slots + ms) Q (F0 m pc ls rest) q9)
    (kk : ∀ (r : UInt64) (u : S) (t : State) (H1 : Heap) (locs1 : List Loc), t.heap = H1 → s.vm.Alike t.vm → post r u → B u t → H.size ≤ H1.size → (∀ q : Nat, q < H.size → ¬ A1 q → H1[q]? = H[q]?) → va_S A0 H0 H1 locs1 → W p l e R s m args below meth c H1 locs1 (cells + mc) (slots + ms) Q (F0 m (pc + 5) ls (.double r :: rest))) : W p l e R s m args below meth c H locs cells slots Q (F0 m pc ls st0) := by
  intro T hT X
  rcases hr T hT X with ⟨v, st₀, t, T', L, h0, X', hL, e1, e2, ⟨⟨r, u, hv, hp, hb⟩, hF⟩, st⟩ | ⟨q, st₀, t, T', L, E, ce, h0, X', hL, e1, e2, ⟨u, hp, hb, hF⟩, hce, hcv, hcl, st⟩
  · cases hv
    obtain ⟨k1, k2, k3⟩ := vx_keep h0 e1 hS hA hf hL hF
    obtain ⟨t2, a1, b1⟩ := kk r u t T'.heap (locs ++ L) e1.symm (by rw [← e2]; exact X'.warmed.alike) hp hb k1 k2 k3 T' rfl X'
    exact ⟨t2, st t2 a1, b1⟩
  · obtain ⟨k1, k2, k3⟩ := vx_keep h0 e1 hS hAX hf hL hF
    obtain ⟨t2, a1, b1⟩ := kx E ce q u t T'.heap (locs ++ L) e1.symm (by rw [← e2]; exact X'.warmed.alike) hp hb k1 k2 k3 (by rw [e1]; exact hce) hcv hcl T' rfl X'
    exact ⟨t2, st.trans a1, b1⟩
end
/-! ===== END ===== -/
end
section
/-! ===== BEGIN printed: names, fields, word lists, decode rows ===== -/
def RX0 : String := "ShuffleHall$Cycles"
def TX0 : u_T := fun k => match k with
  | _ => ("", "", "", false)
def tyX0 : Nat → FieldType := fun k => match k with
  | _ => .int
abbrev wsX00 : List Cond := u_ws RX0 TX0 0
theorem nmX0 : ∀ a, a < 0 → ∀ b, b < 0 → a ≠ b → (TX0 a).2.1 ≠ (TX0 b).2.1 := by decide +kernel
theorem tyX0_ok : ∀ k, k < 0 → parseFieldDescriptor (TX0 k).2.2.1 = some (tyX0 k) := by decide +kernel
abbrev cX0_count : ByteArray := prog_2_method_2_code
def yX0_count : MethodName := ⟨RX0, "count", "(LShuffleHall$Row;)I"⟩
abbrev cX0_fixed : ByteArray := prog_2_method_3_code
def yX0_fixed : MethodName := ⟨RX0, "fixed", "(LShuffleHall$Row;)I"⟩
abbrev cX0_longest : ByteArray := prog_2_method_4_code
def yX0_longest : MethodName := ⟨RX0, "longest", "(LShuffleHall$Row;)I"⟩
abbrev cX0_placementPeriod : ByteArray := prog_2_method_5_code
def yX0_placementPeriod : MethodName := ⟨RX0, "placementPeriod", "(LShuffleHall$Row;)I"⟩
abbrev cX0_fullPeriod : ByteArray := prog_2_method_6_code
def yX0_fullPeriod : MethodName := ⟨RX0, "fullPeriod", "(LShuffleHall$Row;)I"⟩
abbrev cX0_leastOf : ByteArray := prog_2_method_7_code
def yX0_leastOf : MethodName := ⟨RX0, "leastOf", "(LShuffleHall$Row;I)I"⟩
abbrev cX0_lengthOf : ByteArray := prog_2_method_8_code
def yX0_lengthOf : MethodName := ⟨RX0, "lengthOf", "(LShuffleHall$Row;I)I"⟩
abbrev cX0_turnsOver : ByteArray := prog_2_method_9_code
def yX0_turnsOver : MethodName := ⟨RX0, "turnsOver", "(LShuffleHall$Row;I)Z"⟩
abbrev cX0_leastMultiple : ByteArray := prog_2_method_10_code
def yX0_leastMultiple : MethodName := ⟨RX0, "leastMultiple", "(II)I"⟩
def RX1 : String := "ShuffleHall$Deck"
def TX1 : u_T := fun k => match k with
  | 0 => ("ShuffleHall$Deck", "row", "LShuffleHall$Row;", true)
  | 1 => ("ShuffleHall$Deck", "kept", "[[I", true)
  | 2 => ("ShuffleHall$Deck", "keptCount", "I", false)
  | _ => ("ShuffleHall$Deck", "shuffleCount", "I", false)
def tyX1 : Nat → FieldType := fun k => match k with
  | 0 => .object "ShuffleHall$Row"
  | 1 => .array (.array .int)
  | 2 => .int
  | _ => .int
abbrev wsX10 : List Cond := u_ws RX1 TX1 4
theorem nmX1 : ∀ a, a < 4 → ∀ b, b < 4 → a ≠ b → (TX1 a).2.1 ≠ (TX1 b).2.1 := by decide +kernel
theorem tyX1_ok : ∀ k, k < 4 → parseFieldDescriptor (TX1 k).2.2.1 = some (tyX1 k) := by decide +kernel
abbrev cX1_init : ByteArray := prog_3_method_1_code
def yX1_init : MethodName := ⟨RX1, "<init>", "()V"⟩
abbrev cX1_begin : ByteArray := prog_3_method_2_code
def yX1_begin : MethodName := ⟨RX1, "begin", "(I)V"⟩
abbrev cX1_row : ByteArray := prog_3_method_3_code
def yX1_row : MethodName := ⟨RX1, "row", "()LShuffleHall$Row;"⟩
abbrev cX1_shuffleCount : ByteArray := prog_3_method_4_code
def yX1_shuffleCount : MethodName := ⟨RX1, "shuffleCount", "()I"⟩
abbrev cX1_put : ByteArray := prog_3_method_5_code
def yX1_put : MethodName := ⟨RX1, "put", "(LShuffleHall$Row;I)V"⟩
abbrev cX1_takeBack : ByteArray := prog_3_method_6_code
def yX1_takeBack : MethodName := ⟨RX1, "takeBack", "()Z"⟩
abbrev cX1_keptPlace : ByteArray := prog_3_method_7_code
def yX1_keptPlace : MethodName := ⟨RX1, "keptPlace", "()I"⟩
def RX2 : String := "ShuffleHall$Measures"
def TX2 : u_T := fun k => match k with
  | _ => ("", "", "", false)
def tyX2 : Nat → FieldType := fun k => match k with
  | _ => .int
abbrev wsX20 : List Cond := u_ws RX2 TX2 0
theorem nmX2 : ∀ a, a < 0 → ∀ b, b < 0 → a ≠ b → (TX2 a).2.1 ≠ (TX2 b).2.1 := by decide +kernel
theorem tyX2_ok : ∀ k, k < 0 → parseFieldDescriptor (TX2 k).2.2.1 = some (tyX2 k) := by decide +kernel
abbrev cX2_inversions : ByteArray := prog_4_method_2_code
def yX2_inversions : MethodName := ⟨RX2, "inversions", "(LShuffleHall$Row;)I"⟩
abbrev cX2_risingRuns : ByteArray := prog_4_method_3_code
def yX2_risingRuns : MethodName := ⟨RX2, "risingRuns", "(LShuffleHall$Row;)I"⟩
abbrev cX2_rifflesNeeded : ByteArray := prog_4_method_4_code
def yX2_rifflesNeeded : MethodName := ⟨RX2, "rifflesNeeded", "(I)I"⟩
abbrev cX2_facesUp : ByteArray := prog_4_method_5_code
def yX2_facesUp : MethodName := ⟨RX2, "facesUp", "(LShuffleHall$Row;)I"⟩
abbrev cX2_longestRise : ByteArray := prog_4_method_6_code
def yX2_longestRise : MethodName := ⟨RX2, "longestRise", "(LShuffleHall$Row;)I"⟩
abbrev cX2_keepsGroups : ByteArray := prog_4_method_7_code
def yX2_keepsGroups : MethodName := ⟨RX2, "keepsGroups", "(LShuffleHall$Row;I)Z"⟩
abbrev cX2_isWhole : ByteArray := prog_4_method_8_code
def yX2_isWhole : MethodName := ⟨RX2, "isWhole", "(LShuffleHall$Row;)Z"⟩
abbrev cX2_isMirrored : ByteArray := prog_4_method_9_code
def yX2_isMirrored : MethodName := ⟨RX2, "isMirrored", "(LShuffleHall$Row;)Z"⟩
abbrev cX2_placesFrom : ByteArray := prog_4_method_10_code
def yX2_placesFrom : MethodName := ⟨RX2, "placesFrom", "(LShuffleHall$Row;I)I"⟩
def RX3 : String := "ShuffleHall$Row"
def TX3 : u_T := fun k => match k with
  | 0 => ("ShuffleHall$Row", "lying", "[I", true)
  | 1 => ("ShuffleHall$Row", "before", "[I", true)
  | _ => ("ShuffleHall$Row", "size", "I", false)
def tyX3 : Nat → FieldType := fun k => match k with
  | 0 => .array .int
  | 1 => .array .int
  | _ => .int
abbrev wsX30 : List Cond := u_ws RX3 TX3 3
theorem nmX3 : ∀ a, a < 3 → ∀ b, b < 3 → a ≠ b → (TX3 a).2.1 ≠ (TX3 b).2.1 := by decide +kernel
theorem tyX3_ok : ∀ k, k < 3 → parseFieldDescriptor (TX3 k).2.2.1 = some (tyX3 k) := by decide +kernel
abbrev cX3_init : ByteArray := prog_5_method_1_code
def yX3_init : MethodName := ⟨RX3, "<init>", "()V"⟩
abbrev cX3_begin : ByteArray := prog_5_method_2_code
def yX3_begin : MethodName := ⟨RX3, "begin", "(I)V"⟩
abbrev cX3_clear : ByteArray := prog_5_method_3_code
def yX3_clear : MethodName := ⟨RX3, "clear", "()V"⟩
abbrev cX3_add : ByteArray := prog_5_method_4_code
def yX3_add : MethodName := ⟨RX3, "add", "(I)V"⟩
abbrev cX3_addTurned : ByteArray := prog_5_method_5_code
def yX3_addTurned : MethodName := ⟨RX3, "addTurned", "(I)V"⟩
abbrev cX3_addSpan : ByteArray := prog_5_method_6_code
def yX3_addSpan : MethodName := ⟨RX3, "addSpan", "(II)V"⟩
abbrev cX3_addLying : ByteArray := prog_5_method_7_code
def yX3_addLying : MethodName := ⟨RX3, "addLying", "(I)V"⟩
abbrev cX3_size : ByteArray := prog_5_method_8_code
def yX3_size : MethodName := ⟨RX3, "size", "()I"⟩
abbrev cX3_has : ByteArray := prog_5_method_9_code
def yX3_has : MethodName := ⟨RX3, "has", "(I)Z"⟩
abbrev cX3_numberAt : ByteArray := prog_5_method_10_code
def yX3_numberAt : MethodName := ⟨RX3, "numberAt", "(I)I"⟩
abbrev cX3_isTurnedAt : ByteArray := prog_5_method_11_code
def yX3_isTurnedAt : MethodName := ⟨RX3, "isTurnedAt", "(I)Z"⟩
abbrev cX3_placeOf : ByteArray := prog_5_method_12_code
def yX3_placeOf : MethodName := ⟨RX3, "placeOf", "(I)I"⟩
abbrev cX3_isPlacedAs : ByteArray := prog_5_method_13_code
def yX3_isPlacedAs : MethodName := ⟨RX3, "isPlacedAs", "(LShuffleHall$Row;)Z"⟩
abbrev cX3_turnAt : ByteArray := prog_5_method_14_code
def yX3_turnAt : MethodName := ⟨RX3, "turnAt", "(I)V"⟩
abbrev cX3_copy : ByteArray := prog_5_method_15_code
def yX3_copy : MethodName := ⟨RX3, "copy", "(LShuffleHall$Row;)V"⟩
abbrev cX3_save : ByteArray := prog_5_method_16_code
def yX3_save : MethodName := ⟨RX3, "save", "([I)V"⟩
abbrev cX3_restore : ByteArray := prog_5_method_17_code
def yX3_restore : MethodName := ⟨RX3, "restore", "([I)V"⟩
abbrev cX3_follow : ByteArray := prog_5_method_18_code
def yX3_follow : MethodName := ⟨RX3, "follow", "(LShuffleHall$Row;)V"⟩
abbrev cX3_followOften : ByteArray := prog_5_method_19_code
def yX3_followOften : MethodName := ⟨RX3, "followOften", "(LShuffleHall$Row;I)V"⟩
def RX4 : String := "ShuffleHall$Sequence"
def TX4 : u_T := fun k => match k with
  | 0 => ("ShuffleHall$Sequence", "kinds", "[I", true)
  | 1 => ("ShuffleHall$Sequence", "numbers", "[I", true)
  | _ => ("ShuffleHall$Sequence", "length", "I", false)
def tyX4 : Nat → FieldType := fun k => match k with
  | 0 => .array .int
  | 1 => .array .int
  | _ => .int
abbrev wsX40 : List Cond := u_ws RX4 TX4 3
theorem nmX4 : ∀ a, a < 3 → ∀ b, b < 3 → a ≠ b → (TX4 a).2.1 ≠ (TX4 b).2.1 := by decide +kernel
theorem tyX4_ok : ∀ k, k < 3 → parseFieldDescriptor (TX4 k).2.2.1 = some (tyX4 k) := by decide +kernel
abbrev cX4_init : ByteArray := prog_6_method_1_code
def yX4_init : MethodName := ⟨RX4, "<init>", "()V"⟩
abbrev cX4_length : ByteArray := prog_6_method_2_code
def yX4_length : MethodName := ⟨RX4, "length", "()I"⟩
abbrev cX4_add : ByteArray := prog_6_method_3_code
def yX4_add : MethodName := ⟨RX4, "add", "(II)V"⟩
abbrev cX4_kindAt : ByteArray := prog_6_method_4_code
def yX4_kindAt : MethodName := ⟨RX4, "kindAt", "(I)I"⟩
abbrev cX4_numberAt : ByteArray := prog_6_method_5_code
def yX4_numberAt : MethodName := ⟨RX4, "numberAt", "(I)I"⟩
abbrev cX4_has : ByteArray := prog_6_method_6_code
def yX4_has : MethodName := ⟨RX4, "has", "(I)Z"⟩
abbrev cX4_lay : ByteArray := prog_6_method_7_code
def yX4_lay : MethodName := ⟨RX4, "lay", "(LShuffleHall$Row;LShuffleHall$Row;I)Z"⟩
def RX5 : String := "ShuffleHall$Shuffles"
def TX5 : u_T := fun k => match k with
  | _ => ("", "", "", false)
def tyX5 : Nat → FieldType := fun k => match k with
  | _ => .int
abbrev wsX50 : List Cond := u_ws RX5 TX5 0
theorem nmX5 : ∀ a, a < 0 → ∀ b, b < 0 → a ≠ b → (TX5 a).2.1 ≠ (TX5 b).2.1 := by decide +kernel
theorem tyX5_ok : ∀ k, k < 0 → parseFieldDescriptor (TX5 k).2.2.1 = some (tyX5 k) := by decide +kernel
abbrev cX5_lay : ByteArray := prog_7_method_2_code
def yX5_lay : MethodName := ⟨RX5, "lay", "(LShuffleHall$Row;III)Z"⟩
abbrev cX5_isOne : ByteArray := prog_7_method_3_code
def yX5_isOne : MethodName := ⟨RX5, "isOne", "(III)Z"⟩
abbrev cX5_layHalves : ByteArray := prog_7_method_4_code
def yX5_layHalves : MethodName := ⟨RX5, "layHalves", "(LShuffleHall$Row;III)V"⟩
abbrev cX5_layMonge : ByteArray := prog_7_method_5_code
def yX5_layMonge : MethodName := ⟨RX5, "layMonge", "(LShuffleHall$Row;I)V"⟩
abbrev cX5_layMilk : ByteArray := prog_7_method_6_code
def yX5_layMilk : MethodName := ⟨RX5, "layMilk", "(LShuffleHall$Row;I)V"⟩
abbrev cX5_layDeal : ByteArray := prog_7_method_7_code
def yX5_layDeal : MethodName := ⟨RX5, "layDeal", "(LShuffleHall$Row;II)V"⟩
abbrev cX5_layBack : ByteArray := prog_7_method_8_code
def yX5_layBack : MethodName := ⟨RX5, "layBack", "(LShuffleHall$Row;II)V"⟩
abbrev cX5_layOver : ByteArray := prog_7_method_9_code
def yX5_layOver : MethodName := ⟨RX5, "layOver", "(LShuffleHall$Row;II)V"⟩
abbrev cX5_layRiffle : ByteArray := prog_7_method_10_code
def yX5_layRiffle : MethodName := ⟨RX5, "layRiffle", "(LShuffleHall$Row;II)V"⟩
abbrev cX5_layPackets : ByteArray := prog_7_method_11_code
def yX5_layPackets : MethodName := ⟨RX5, "layPackets", "(LShuffleHall$Row;II)V"⟩
def RX6 : String := "ShuffleHall"
def TX6 : u_T := fun k => match k with
  | 0 => ("ShuffleHall", "decks", "[LShuffleHall$Deck;", true)
  | 1 => ("ShuffleHall", "sequences", "[LShuffleHall$Sequence;", true)
  | 2 => ("ShuffleHall", "deckCount", "I", false)
  | 3 => ("ShuffleHall", "sequenceCount", "I", false)
  | 4 => ("ShuffleHall", "takenBack", "I", false)
  | 5 => ("ShuffleHall", "move", "LShuffleHall$Row;", true)
  | 6 => ("ShuffleHall", "stepMove", "LShuffleHall$Row;", true)
  | _ => ("ShuffleHall", "trial", "LShuffleHall$Row;", true)
def tyX6 : Nat → FieldType := fun k => match k with
  | 0 => .array (.object "ShuffleHall$Deck")
  | 1 => .array (.object "ShuffleHall$Sequence")
  | 2 => .int
  | 3 => .int
  | 4 => .int
  | 5 => .object "ShuffleHall$Row"
  | 6 => .object "ShuffleHall$Row"
  | _ => .object "ShuffleHall$Row"
abbrev wsX60 : List Cond := u_ws RX6 TX6 8
theorem nmX6 : ∀ a, a < 8 → ∀ b, b < 8 → a ≠ b → (TX6 a).2.1 ≠ (TX6 b).2.1 := by decide +kernel
theorem tyX6_ok : ∀ k, k < 8 → parseFieldDescriptor (TX6 k).2.2.1 = some (tyX6 k) := by decide +kernel
abbrev cX6_init : ByteArray := prog_1_method_1_code
def yX6_init : MethodName := ⟨RX6, "<init>", "()V"⟩
abbrev cX6_deck : ByteArray := prog_1_method_2_code
def yX6_deck : MethodName := ⟨RX6, "deck", "(I)I"⟩
abbrev cX6_shuffle : ByteArray := prog_1_method_3_code
def yX6_shuffle : MethodName := ⟨RX6, "shuffle", "(IIII)I"⟩
abbrev cX6_undo : ByteArray := prog_1_method_4_code
def yX6_undo : MethodName := ⟨RX6, "undo", "(I)I"⟩
abbrev cX6_turn : ByteArray := prog_1_method_5_code
def yX6_turn : MethodName := ⟨RX6, "turn", "(II)Z"⟩
abbrev cX6_sequence : ByteArray := prog_1_method_6_code
def yX6_sequence : MethodName := ⟨RX6, "sequence", "()I"⟩
abbrev cX6_step : ByteArray := prog_1_method_7_code
def yX6_step : MethodName := ⟨RX6, "step", "(III)I"⟩
abbrev cX6_perform : ByteArray := prog_1_method_8_code
def yX6_perform : MethodName := ⟨RX6, "perform", "(III)I"⟩
abbrev cX6_card : ByteArray := prog_1_method_9_code
def yX6_card : MethodName := ⟨RX6, "card", "(II)I"⟩
abbrev cX6_find : ByteArray := prog_1_method_10_code
def yX6_find : MethodName := ⟨RX6, "find", "(IIZ)I"⟩
abbrev cX6_ofDeck : ByteArray := prog_1_method_11_code
def yX6_ofDeck : MethodName := ⟨RX6, "ofDeck", "(II)I"⟩
abbrev cX6_keeps : ByteArray := prog_1_method_12_code
def yX6_keeps : MethodName := ⟨RX6, "keeps", "(II)Z"⟩
abbrev cX6_chance : ByteArray := prog_1_method_13_code
def yX6_chance : MethodName := ⟨RX6, "chance", "(II)D"⟩
abbrev cX6_far : ByteArray := prog_1_method_14_code
def yX6_far : MethodName := ⟨RX6, "far", "(I)D"⟩
abbrev cX6_alike : ByteArray := prog_1_method_15_code
def yX6_alike : MethodName := ⟨RX6, "alike", "(II)I"⟩
abbrev cX6_ofSequence : ByteArray := prog_1_method_16_code
def yX6_ofSequence : MethodName := ⟨RX6, "ofSequence", "(II)I"⟩
abbrev cX6_period : ByteArray := prog_1_method_17_code
def yX6_period : MethodName := ⟨RX6, "period", "(II)I"⟩
abbrev cX6_many : ByteArray := prog_1_method_18_code
def yX6_many : MethodName := ⟨RX6, "many", "(I)I"⟩
abbrev cX6_toTop : ByteArray := prog_1_method_19_code
def yX6_toTop : MethodName := ⟨RX6, "toTop", "(II)I"⟩
abbrev cX6_goes : ByteArray := prog_1_method_20_code
def yX6_goes : MethodName := ⟨RX6, "goes", "(IIII)I"⟩
abbrev cX6_best : ByteArray := prog_1_method_21_code
def yX6_best : MethodName := ⟨RX6, "best", "(I)I"⟩
abbrev cX6_riffle : ByteArray := prog_1_method_22_code
def yX6_riffle : MethodName := ⟨RX6, "riffle", "(I)I"⟩
abbrev cX6_digest : ByteArray := prog_1_method_23_code
def yX6_digest : MethodName := ⟨RX6, "digest", "()J"⟩
abbrev cX6_mixedDeck : ByteArray := prog_1_method_24_code
def yX6_mixedDeck : MethodName := ⟨RX6, "mixedDeck", "(JI)J"⟩
abbrev cX6_mixed : ByteArray := prog_1_method_25_code
def yX6_mixed : MethodName := ⟨RX6, "mixed", "(JI)J"⟩
abbrev cX6_needDeck : ByteArray := prog_1_method_26_code
def yX6_needDeck : MethodName := ⟨RX6, "needDeck", "(I)LShuffleHall$Deck;"⟩
abbrev cX6_needSequence : ByteArray := prog_1_method_27_code
def yX6_needSequence : MethodName := ⟨RX6, "needSequence", "(I)LShuffleHall$Sequence;"⟩
abbrev cX6_needPosition : ByteArray := prog_1_method_28_code
def yX6_needPosition : MethodName := ⟨RX6, "needPosition", "(LShuffleHall$Row;I)V"⟩
abbrev cX6_needOften : ByteArray := prog_1_method_29_code
def yX6_needOften : MethodName := ⟨RX6, "needOften", "(I)V"⟩
abbrev cX6_needWhat : ByteArray := prog_1_method_30_code
def yX6_needWhat : MethodName := ⟨RX6, "needWhat", "(II)V"⟩
abbrev cX6_isDeckSize : ByteArray := prog_1_method_31_code
def yX6_isDeckSize : MethodName := ⟨RX6, "isDeckSize", "(I)Z"⟩
abbrev cX6_isWithin : ByteArray := prog_1_method_32_code
def yX6_isWithin : MethodName := ⟨RX6, "isWithin", "(III)Z"⟩
abbrev cX6_shufflesOfAll : ByteArray := prog_1_method_33_code
def yX6_shufflesOfAll : MethodName := ⟨RX6, "shufflesOfAll", "()I"⟩
abbrev cX6_cardsOfAll : ByteArray := prog_1_method_34_code
def yX6_cardsOfAll : MethodName := ⟨RX6, "cardsOfAll", "()I"⟩
abbrev cX6_facesUpOfAll : ByteArray := prog_1_method_35_code
def yX6_facesUpOfAll : MethodName := ⟨RX6, "facesUpOfAll", "()I"⟩
abbrev cX6_behindOutOrIn : ByteArray := prog_1_method_36_code
def yX6_behindOutOrIn : MethodName := ⟨RX6, "behindOutOrIn", "(II)I"⟩
def RX7 : String := "ShuffleHallModel$Deck"
def TX7 : u_T := fun k => match k with
  | 0 => ("ShuffleHallModel$Deck", "cards", "[I", false)
  | 1 => ("ShuffleHallModel$Deck", "up", "[Z", false)
  | 2 => ("ShuffleHallModel$Deck", "pastCards", "Ljava/util/ArrayList;", true)
  | 3 => ("ShuffleHallModel$Deck", "pastUp", "Ljava/util/ArrayList;", true)
  | _ => ("ShuffleHallModel$Deck", "shuffles", "I", false)
def tyX7 : Nat → FieldType := fun k => match k with
  | 0 => .array .int
  | 1 => .array .boolean
  | 2 => .object "java/util/ArrayList"
  | 3 => .object "java/util/ArrayList"
  | _ => .int
abbrev wsX70 : List Cond := u_ws RX7 TX7 5
theorem nmX7 : ∀ a, a < 5 → ∀ b, b < 5 → a ≠ b → (TX7 a).2.1 ≠ (TX7 b).2.1 := by decide +kernel
theorem tyX7_ok : ∀ k, k < 5 → parseFieldDescriptor (TX7 k).2.2.1 = some (tyX7 k) := by decide +kernel
abbrev cX7_init : ByteArray := prog_10_method_1_code
def yX7_init : MethodName := ⟨RX7, "<init>", "(I)V"⟩
abbrev cX7_size : ByteArray := prog_10_method_2_code
def yX7_size : MethodName := ⟨RX7, "size", "()I"⟩
abbrev cX7_go : ByteArray := prog_10_method_3_code
def yX7_go : MethodName := ⟨RX7, "go", "(LShuffleHallModel$Way;)V"⟩
abbrev cX7_back : ByteArray := prog_10_method_4_code
def yX7_back : MethodName := ⟨RX7, "back", "()Z"⟩
abbrev cX7_find : ByteArray := prog_10_method_5_code
def yX7_find : MethodName := ⟨RX7, "find", "(I)I"⟩
abbrev cX7_ups : ByteArray := prog_10_method_6_code
def yX7_ups : MethodName := ⟨RX7, "ups", "()I"⟩
abbrev cX7_inversions : ByteArray := prog_10_method_7_code
def yX7_inversions : MethodName := ⟨RX7, "inversions", "()I"⟩
abbrev cX7_inversions_ : ByteArray := prog_10_method_8_code
def yX7_inversions_ : MethodName := ⟨RX7, "inversions", "(LShuffleHallModel$Way;)I"⟩
abbrev cX7_runs : ByteArray := prog_10_method_9_code
def yX7_runs : MethodName := ⟨RX7, "runs", "()I"⟩
abbrev cX7_cycles : ByteArray := prog_10_method_10_code
def yX7_cycles : MethodName := ⟨RX7, "cycles", "(I)I"⟩
abbrev cX7_climb : ByteArray := prog_10_method_11_code
def yX7_climb : MethodName := ⟨RX7, "climb", "()I"⟩
abbrev cX7_hasPairs : ByteArray := prog_10_method_12_code
def yX7_hasPairs : MethodName := ⟨RX7, "hasPairs", "()Z"⟩
abbrev cX7_hasFours : ByteArray := prog_10_method_13_code
def yX7_hasFours : MethodName := ⟨RX7, "hasFours", "()Z"⟩
abbrev cX7_isWhole : ByteArray := prog_10_method_14_code
def yX7_isWhole : MethodName := ⟨RX7, "isWhole", "()Z"⟩
abbrev cX7_isMirrored : ByteArray := prog_10_method_15_code
def yX7_isMirrored : MethodName := ⟨RX7, "isMirrored", "()Z"⟩
abbrev cX7_isNew : ByteArray := prog_10_method_16_code
def yX7_isNew : MethodName := ⟨RX7, "isNew", "()Z"⟩
def RX8 : String := "ShuffleHallModel$Way"
def TX8 : u_T := fun k => match k with
  | 0 => ("ShuffleHallModel$Way", "from", "[I", true)
  | _ => ("ShuffleHallModel$Way", "isTurned", "[Z", true)
def tyX8 : Nat → FieldType := fun k => match k with
  | 0 => .array .int
  | _ => .array .boolean
abbrev wsX80 : List Cond := u_ws RX8 TX8 2
theorem nmX8 : ∀ a, a < 2 → ∀ b, b < 2 → a ≠ b → (TX8 a).2.1 ≠ (TX8 b).2.1 := by decide +kernel
theorem tyX8_ok : ∀ k, k < 2 → parseFieldDescriptor (TX8 k).2.2.1 = some (tyX8 k) := by decide +kernel
abbrev cX8_init : ByteArray := prog_11_method_1_code
def yX8_init : MethodName := ⟨RX8, "<init>", "(I)V"⟩
abbrev cX8_then : ByteArray := prog_11_method_2_code
def yX8_then : MethodName := ⟨RX8, "then", "(LShuffleHallModel$Way;)LShuffleHallModel$Way;"⟩
abbrev cX8_often : ByteArray := prog_11_method_3_code
def yX8_often : MethodName := ⟨RX8, "often", "(I)LShuffleHallModel$Way;"⟩
abbrev cX8_to : ByteArray := prog_11_method_4_code
def yX8_to : MethodName := ⟨RX8, "to", "(I)I"⟩
abbrev cX8_isStill : ByteArray := prog_11_method_5_code
def yX8_isStill : MethodName := ⟨RX8, "isStill", "()Z"⟩
def RX9 : String := "ShuffleHallModel"
def TX9 : u_T := fun k => match k with
  | 0 => ("ShuffleHallModel", "thrown", "I", false)
  | 1 => ("ShuffleHallModel", "decks", "Ljava/util/ArrayList;", true)
  | 2 => ("ShuffleHallModel", "sequences", "Ljava/util/ArrayList;", true)
  | 3 => ("ShuffleHallModel", "undone", "I", false)
  | _ => ("ShuffleHallModel", "sum", "J", false)
def tyX9 : Nat → FieldType := fun k => match k with
  | 0 => .int
  | 1 => .object "java/util/ArrayList"
  | 2 => .object "java/util/ArrayList"
  | 3 => .int
  | _ => .long
abbrev wsX90 : List Cond := u_ws RX9 TX9 5
theorem nmX9 : ∀ a, a < 5 → ∀ b, b < 5 → a ≠ b → (TX9 a).2.1 ≠ (TX9 b).2.1 := by decide +kernel
theorem tyX9_ok : ∀ k, k < 5 → parseFieldDescriptor (TX9 k).2.2.1 = some (tyX9 k) := by decide +kernel
abbrev cX9_init : ByteArray := prog_9_method_1_code
def yX9_init : MethodName := ⟨RX9, "<init>", "()V"⟩
abbrev cX9_thrown : ByteArray := prog_9_method_2_code
def yX9_thrown : MethodName := ⟨RX9, "thrown", "()I"⟩
abbrev cX9_refuse : ByteArray := prog_9_method_3_code
def yX9_refuse : MethodName := ⟨RX9, "refuse", "(I)I"⟩
abbrev cX9_is : ByteArray := prog_9_method_4_code
def yX9_is : MethodName := ⟨RX9, "is", "(III)Z"⟩
abbrev cX9_isShuffle : ByteArray := prog_9_method_5_code
def yX9_isShuffle : MethodName := ⟨RX9, "isShuffle", "(III)Z"⟩
abbrev cX9_way : ByteArray := prog_9_method_6_code
def yX9_way : MethodName := ⟨RX9, "way", "(III)LShuffleHallModel$Way;"⟩
abbrev cX9_common : ByteArray := prog_9_method_7_code
def yX9_common : MethodName := ⟨RX9, "common", "(II)I"⟩
abbrev cX9_isDeck : ByteArray := prog_9_method_8_code
def yX9_isDeck : MethodName := ⟨RX9, "isDeck", "(I)Z"⟩
abbrev cX9_isSequence : ByteArray := prog_9_method_9_code
def yX9_isSequence : MethodName := ⟨RX9, "isSequence", "(I)Z"⟩
abbrev cX9_isPlace : ByteArray := prog_9_method_10_code
def yX9_isPlace : MethodName := ⟨RX9, "isPlace", "(II)Z"⟩
abbrev cX9_deck : ByteArray := prog_9_method_11_code
def yX9_deck : MethodName := ⟨RX9, "deck", "(I)I"⟩
abbrev cX9_shuffle : ByteArray := prog_9_method_12_code
def yX9_shuffle : MethodName := ⟨RX9, "shuffle", "(IIII)I"⟩
abbrev cX9_undo : ByteArray := prog_9_method_13_code
def yX9_undo : MethodName := ⟨RX9, "undo", "(I)I"⟩
abbrev cX9_turn : ByteArray := prog_9_method_14_code
def yX9_turn : MethodName := ⟨RX9, "turn", "(II)Z"⟩
abbrev cX9_sequence : ByteArray := prog_9_method_15_code
def yX9_sequence : MethodName := ⟨RX9, "sequence", "()I"⟩
abbrev cX9_step : ByteArray := prog_9_method_16_code
def yX9_step : MethodName := ⟨RX9, "step", "(III)I"⟩
abbrev cX9_wayOf : ByteArray := prog_9_method_17_code
def yX9_wayOf : MethodName := ⟨RX9, "wayOf", "(II)LShuffleHallModel$Way;"⟩
abbrev cX9_perform : ByteArray := prog_9_method_18_code
def yX9_perform : MethodName := ⟨RX9, "perform", "(III)I"⟩
abbrev cX9_card : ByteArray := prog_9_method_19_code
def yX9_card : MethodName := ⟨RX9, "card", "(II)I"⟩
abbrev cX9_find : ByteArray := prog_9_method_20_code
def yX9_find : MethodName := ⟨RX9, "find", "(IIZ)I"⟩
abbrev cX9_needed : ByteArray := prog_9_method_21_code
def yX9_needed : MethodName := ⟨RX9, "needed", "(I)I"⟩
abbrev cX9_ofDeckNow : ByteArray := prog_9_method_22_code
def yX9_ofDeckNow : MethodName := ⟨RX9, "ofDeckNow", "(LShuffleHallModel$Deck;I)I"⟩
abbrev cX9_ofDeck : ByteArray := prog_9_method_23_code
def yX9_ofDeck : MethodName := ⟨RX9, "ofDeck", "(II)I"⟩
abbrev cX9_keepsNow : ByteArray := prog_9_method_24_code
def yX9_keepsNow : MethodName := ⟨RX9, "keepsNow", "(LShuffleHallModel$Deck;I)Z"⟩
abbrev cX9_keeps : ByteArray := prog_9_method_25_code
def yX9_keeps : MethodName := ⟨RX9, "keeps", "(II)Z"⟩
abbrev cX9_chance : ByteArray := prog_9_method_26_code
def yX9_chance : MethodName := ⟨RX9, "chance", "(II)D"⟩
abbrev cX9_far : ByteArray := prog_9_method_27_code
def yX9_far : MethodName := ⟨RX9, "far", "(I)D"⟩
abbrev cX9_alikeNow : ByteArray := prog_9_method_28_code
def yX9_alikeNow : MethodName := ⟨RX9, "alikeNow", "(LShuffleHallModel$Deck;LShuffleHallModel$Deck;)I"⟩
abbrev cX9_alike : ByteArray := prog_9_method_29_code
def yX9_alike : MethodName := ⟨RX9, "alike", "(II)I"⟩
abbrev cX9_ofSequenceNow : ByteArray := prog_9_method_30_code
def yX9_ofSequenceNow : MethodName := ⟨RX9, "ofSequenceNow", "(II)I"⟩
abbrev cX9_ofSequence : ByteArray := prog_9_method_31_code
def yX9_ofSequence : MethodName := ⟨RX9, "ofSequence", "(II)I"⟩
abbrev cX9_periodNow : ByteArray := prog_9_method_32_code
def yX9_periodNow : MethodName := ⟨RX9, "periodNow", "(II)I"⟩
abbrev cX9_period : ByteArray := prog_9_method_33_code
def yX9_period : MethodName := ⟨RX9, "period", "(II)I"⟩
abbrev cX9_manyNow : ByteArray := prog_9_method_34_code
def yX9_manyNow : MethodName := ⟨RX9, "manyNow", "(I)I"⟩
abbrev cX9_many : ByteArray := prog_9_method_35_code
def yX9_many : MethodName := ⟨RX9, "many", "(I)I"⟩
abbrev cX9_toTopNow : ByteArray := prog_9_method_36_code
def yX9_toTopNow : MethodName := ⟨RX9, "toTopNow", "(LShuffleHallModel$Deck;I)I"⟩
abbrev cX9_toTop : ByteArray := prog_9_method_37_code
def yX9_toTop : MethodName := ⟨RX9, "toTop", "(II)I"⟩
abbrev cX9_goes : ByteArray := prog_9_method_38_code
def yX9_goes : MethodName := ⟨RX9, "goes", "(IIII)I"⟩
abbrev cX9_bestNow : ByteArray := prog_9_method_39_code
def yX9_bestNow : MethodName := ⟨RX9, "bestNow", "(LShuffleHallModel$Deck;)I"⟩
abbrev cX9_best : ByteArray := prog_9_method_40_code
def yX9_best : MethodName := ⟨RX9, "best", "(I)I"⟩
abbrev cX9_riffleNow : ByteArray := prog_9_method_41_code
def yX9_riffleNow : MethodName := ⟨RX9, "riffleNow", "(LShuffleHallModel$Deck;)I"⟩
abbrev cX9_riffle : ByteArray := prog_9_method_42_code
def yX9_riffle : MethodName := ⟨RX9, "riffle", "(I)I"⟩
abbrev cX9_add : ByteArray := prog_9_method_43_code
def yX9_add : MethodName := ⟨RX9, "add", "(I)V"⟩
abbrev cX9_digest : ByteArray := prog_9_method_44_code
def yX9_digest : MethodName := ⟨RX9, "digest", "()J"⟩
def RJx145de : String := "java/io/Serializable"
def TJx145de : u_T := fun k => match k with
  | _ => ("", "", "", false)
def tyJx145de : Nat → FieldType := fun k => match k with
  | _ => .int
abbrev wsJx145de0 : List Cond := u_ws RJx145de TJx145de 0
theorem nmJx145de : ∀ a, a < 0 → ∀ b, b < 0 → a ≠ b → (TJx145de a).2.1 ≠ (TJx145de b).2.1 := by decide +kernel
theorem tyJx145de_ok : ∀ k, k < 0 → parseFieldDescriptor (TJx145de k).2.2.1 = some (tyJx145de k) := by decide +kernel
def RJx8e188 : String := "java/lang/Cloneable"
def TJx8e188 : u_T := fun k => match k with
  | _ => ("", "", "", false)
def tyJx8e188 : Nat → FieldType := fun k => match k with
  | _ => .int
abbrev wsJx8e1880 : List Cond := u_ws RJx8e188 TJx8e188 0
theorem nmJx8e188 : ∀ a, a < 0 → ∀ b, b < 0 → a ≠ b → (TJx8e188 a).2.1 ≠ (TJx8e188 b).2.1 := by decide +kernel
theorem tyJx8e188_ok : ∀ k, k < 0 → parseFieldDescriptor (TJx8e188 k).2.2.1 = some (tyJx8e188 k) := by decide +kernel
def RJ6 : String := "java/lang/Integer"
def TJ6 : u_T := fun k => match k with
  | _ => ("", "", "", false)
def tyJ6 : Nat → FieldType := fun k => match k with
  | _ => .int
abbrev wsJ60 : List Cond := u_ws RJ6 TJ6 0
theorem nmJ6 : ∀ a, a < 0 → ∀ b, b < 0 → a ≠ b → (TJ6 a).2.1 ≠ (TJ6 b).2.1 := by decide +kernel
theorem tyJ6_ok : ∀ k, k < 0 → parseFieldDescriptor (TJ6 k).2.2.1 = some (tyJ6 k) := by decide +kernel
abbrev cJ6_bitCount_0f7a4 : ByteArray := prog_18_method_49_code
def yJ6_bitCount_0f7a4 : MethodName := ⟨RJ6, "bitCount", "(I)I"⟩
def RJxab1ab : String := "java/lang/Iterable"
def TJxab1ab : u_T := fun k => match k with
  | _ => ("", "", "", false)
def tyJxab1ab : Nat → FieldType := fun k => match k with
  | _ => .int
abbrev wsJxab1ab0 : List Cond := u_ws RJxab1ab TJxab1ab 0
theorem nmJxab1ab : ∀ a, a < 0 → ∀ b, b < 0 → a ≠ b → (TJxab1ab a).2.1 ≠ (TJxab1ab b).2.1 := by decide +kernel
theorem tyJxab1ab_ok : ∀ k, k < 0 → parseFieldDescriptor (TJxab1ab k).2.2.1 = some (tyJxab1ab k) := by decide +kernel
def RJ9 : String := "java/lang/Math"
def TJ9 : u_T := fun k => match k with
  | _ => ("", "", "", false)
def tyJ9 : Nat → FieldType := fun k => match k with
  | _ => .int
abbrev wsJ90 : List Cond := u_ws RJ9 TJ9 0
theorem nmJ9 : ∀ a, a < 0 → ∀ b, b < 0 → a ≠ b → (TJ9 a).2.1 ≠ (TJ9 b).2.1 := by decide +kernel
theorem tyJ9_ok : ∀ k, k < 0 → parseFieldDescriptor (TJ9 k).2.2.1 = some (tyJ9 k) := by decide +kernel
abbrev cJ9_floorMod_7cf53 : ByteArray := prog_20_method_50_code
def yJ9_floorMod_7cf53 : MethodName := ⟨RJ9, "floorMod", "(II)I"⟩
abbrev cJ9_abs_0f7a4 : ByteArray := prog_20_method_59_code
def yJ9_abs_0f7a4 : MethodName := ⟨RJ9, "abs", "(I)I"⟩
abbrev cJ9_max_7cf53 : ByteArray := prog_20_method_65_code
def yJ9_max_7cf53 : MethodName := ⟨RJ9, "max", "(II)I"⟩
abbrev cJ9_min_7cf53 : ByteArray := prog_20_method_69_code
def yJ9_min_7cf53 : MethodName := ⟨RJ9, "min", "(II)I"⟩
def RJ0 : String := "java/lang/String"
def TJ0 : u_T := fun k => match k with
  | _ => ("", "", "", false)
def tyJ0 : Nat → FieldType := fun k => match k with
  | _ => .int
abbrev wsJ00 : List Cond := u_ws RJ0 TJ0 0
theorem nmJ0 : ∀ a, a < 0 → ∀ b, b < 0 → a ≠ b → (TJ0 a).2.1 ≠ (TJ0 b).2.1 := by decide +kernel
theorem tyJ0_ok : ∀ k, k < 0 → parseFieldDescriptor (TJ0 k).2.2.1 = some (tyJ0 k) := by decide +kernel
def RJ10 : String := "java/lang/System"
def TJ10 : u_T := fun k => match k with
  | _ => ("", "", "", false)
def tyJ10 : Nat → FieldType := fun k => match k with
  | _ => .int
abbrev wsJ100 : List Cond := u_ws RJ10 TJ10 0
theorem nmJ10 : ∀ a, a < 0 → ∀ b, b < 0 → a ≠ b → (TJ10 a).2.1 ≠ (TJ10 b).2.1 := by decide +kernel
theorem tyJ10_ok : ∀ k, k < 0 → parseFieldDescriptor (TJ10 k).2.2.1 = some (tyJ10 k) := by decide +kernel
def RJxa1e45 : String := "java/util/AbstractCollection"
def TJxa1e45 : u_T := fun k => match k with
  | _ => ("", "", "", false)
def tyJxa1e45 : Nat → FieldType := fun k => match k with
  | _ => .int
abbrev wsJxa1e450 : List Cond := u_ws RJxa1e45 TJxa1e45 0
theorem nmJxa1e45 : ∀ a, a < 0 → ∀ b, b < 0 → a ≠ b → (TJxa1e45 a).2.1 ≠ (TJxa1e45 b).2.1 := by decide +kernel
theorem tyJxa1e45_ok : ∀ k, k < 0 → parseFieldDescriptor (TJxa1e45 k).2.2.1 = some (tyJxa1e45 k) := by decide +kernel
abbrev cJxa1e45_init_da8c8 : ByteArray := prog_25_method_1_code
def yJxa1e45_init_da8c8 : MethodName := ⟨RJxa1e45, "<init>", "()V"⟩
def RJxc12de : String := "java/util/AbstractList"
def TJxc12de : u_T := fun k => match k with
  | _ => ("", "", "", false)
def tyJxc12de : Nat → FieldType := fun k => match k with
  | _ => .int
abbrev wsJxc12de0 : List Cond := u_ws RJxc12de TJxc12de 0
theorem nmJxc12de : ∀ a, a < 0 → ∀ b, b < 0 → a ≠ b → (TJxc12de a).2.1 ≠ (TJxc12de b).2.1 := by decide +kernel
theorem tyJxc12de_ok : ∀ k, k < 0 → parseFieldDescriptor (TJxc12de k).2.2.1 = some (tyJxc12de k) := by decide +kernel
abbrev cJxc12de_init_da8c8 : ByteArray := prog_26_method_1_code
def yJxc12de_init_da8c8 : MethodName := ⟨RJxc12de, "<init>", "()V"⟩
def RJx35411 : String := "java/util/ArrayList$Itr"
def TJx35411 : u_T := fun k => match k with
  | 0 => ("java/util/ArrayList$Itr", "cursor", "I", false)
  | 1 => ("java/util/ArrayList$Itr", "lastRet", "I", false)
  | 2 => ("java/util/ArrayList$Itr", "expectedModCount", "I", false)
  | _ => ("java/util/ArrayList$Itr", "this$0", "Ljava/util/ArrayList;", true)
def tyJx35411 : Nat → FieldType := fun k => match k with
  | 0 => .int
  | 1 => .int
  | 2 => .int
  | _ => .object "java/util/ArrayList"
abbrev wsJx354110 : List Cond := u_ws RJx35411 TJx35411 4
theorem nmJx35411 : ∀ a, a < 4 → ∀ b, b < 4 → a ≠ b → (TJx35411 a).2.1 ≠ (TJx35411 b).2.1 := by decide +kernel
theorem tyJx35411_ok : ∀ k, k < 4 → parseFieldDescriptor (TJx35411 k).2.2.1 = some (tyJx35411 k) := by decide +kernel
abbrev cJx35411_init_45d68 : ByteArray := prog_28_method_1_code
def yJx35411_init_45d68 : MethodName := ⟨RJx35411, "<init>", "(Ljava/util/ArrayList;)V"⟩
abbrev cJx35411_hasNext_aae02 : ByteArray := prog_28_method_2_code
def yJx35411_hasNext_aae02 : MethodName := ⟨RJx35411, "hasNext", "()Z"⟩
abbrev cJx35411_next_0502b : ByteArray := prog_28_method_3_code
def yJx35411_next_0502b : MethodName := ⟨RJx35411, "next", "()Ljava/lang/Object;"⟩
abbrev cJx35411_checkForComodification_da8c8 : ByteArray := prog_28_method_6_code
def yJx35411_checkForComodification_da8c8 : MethodName := ⟨RJx35411, "checkForComodification", "()V"⟩
def RJx4a65c : String := "java/util/ArrayList"
def TJx4a65c : u_T := fun k => match k with
  | 0 => ("java/util/AbstractList", "modCount", "I", false)
  | 1 => ("java/util/ArrayList", "elementData", "[Ljava/lang/Object;", false)
  | _ => ("java/util/ArrayList", "size", "I", false)
def tyJx4a65c : Nat → FieldType := fun k => match k with
  | 0 => .int
  | 1 => .array (.object "java/lang/Object")
  | _ => .int
abbrev wsJx4a65c0 : List Cond := u_ws RJx4a65c TJx4a65c 3
theorem nmJx4a65c : ∀ a, a < 3 → ∀ b, b < 3 → a ≠ b → (TJx4a65c a).2.1 ≠ (TJx4a65c b).2.1 := by decide +kernel
theorem tyJx4a65c_ok : ∀ k, k < 3 → parseFieldDescriptor (TJx4a65c k).2.2.1 = some (tyJx4a65c k) := by decide +kernel
abbrev cJx4a65c_init_da8c8 : ByteArray := prog_27_method_2_code
def yJx4a65c_init_da8c8 : MethodName := ⟨RJx4a65c, "<init>", "()V"⟩
abbrev cJx4a65c_grow_92f84 : ByteArray := prog_27_method_6_code
def yJx4a65c_grow_92f84 : MethodName := ⟨RJx4a65c, "grow", "(I)[Ljava/lang/Object;"⟩
abbrev cJx4a65c_grow_d5877 : ByteArray := prog_27_method_7_code
def yJx4a65c_grow_d5877 : MethodName := ⟨RJx4a65c, "grow", "()[Ljava/lang/Object;"⟩
abbrev cJx4a65c_size_8abf5 : ByteArray := prog_27_method_8_code
def yJx4a65c_size_8abf5 : MethodName := ⟨RJx4a65c, "size", "()I"⟩
abbrev cJx4a65c_elementData_915e3 : ByteArray := prog_27_method_18_code
def yJx4a65c_elementData_915e3 : MethodName := ⟨RJx4a65c, "elementData", "(I)Ljava/lang/Object;"⟩
abbrev cJx4a65c_get_915e3 : ByteArray := prog_27_method_20_code
def yJx4a65c_get_915e3 : MethodName := ⟨RJx4a65c, "get", "(I)Ljava/lang/Object;"⟩
abbrev cJx4a65c_add_72be8 : ByteArray := prog_27_method_24_code
def yJx4a65c_add_72be8 : MethodName := ⟨RJx4a65c, "add", "(Ljava/lang/Object;[Ljava/lang/Object;I)V"⟩
abbrev cJx4a65c_add_9ea2d : ByteArray := prog_27_method_25_code
def yJx4a65c_add_9ea2d : MethodName := ⟨RJx4a65c, "add", "(Ljava/lang/Object;)Z"⟩
abbrev cJx4a65c_remove_915e3 : ByteArray := prog_27_method_29_code
def yJx4a65c_remove_915e3 : MethodName := ⟨RJx4a65c, "remove", "(I)Ljava/lang/Object;"⟩
abbrev cJx4a65c_fastRemove_b59b0 : ByteArray := prog_27_method_39_code
def yJx4a65c_fastRemove_b59b0 : MethodName := ⟨RJx4a65c, "fastRemove", "([Ljava/lang/Object;I)V"⟩
abbrev cJx4a65c_iterator_32c93 : ByteArray := prog_27_method_55_code
def yJx4a65c_iterator_32c93 : MethodName := ⟨RJx4a65c, "iterator", "()Ljava/util/Iterator;"⟩
def RJ7 : String := "java/util/Arrays"
def TJ7 : u_T := fun k => match k with
  | _ => ("", "", "", false)
def tyJ7 : Nat → FieldType := fun k => match k with
  | _ => .int
abbrev wsJ70 : List Cond := u_ws RJ7 TJ7 0
theorem nmJ7 : ∀ a, a < 0 → ∀ b, b < 0 → a ≠ b → (TJ7 a).2.1 ≠ (TJ7 b).2.1 := by decide +kernel
theorem tyJ7_ok : ∀ k, k < 0 → parseFieldDescriptor (TJ7 k).2.2.1 = some (tyJ7 k) := by decide +kernel
abbrev cJ7_copyOf_1904c : ByteArray := prog_29_method_119_code
def yJ7_copyOf_1904c : MethodName := ⟨RJ7, "copyOf", "([Ljava/lang/Object;I)[Ljava/lang/Object;"⟩
abbrev cJ7_copyOf_6403c : ByteArray := prog_29_method_120_code
def yJ7_copyOf_6403c : MethodName := ⟨RJ7, "copyOf", "([Ljava/lang/Object;ILjava/lang/Class;)[Ljava/lang/Object;"⟩
def RJx5ef63 : String := "java/util/Collection"
def TJx5ef63 : u_T := fun k => match k with
  | _ => ("", "", "", false)
def tyJx5ef63 : Nat → FieldType := fun k => match k with
  | _ => .int
abbrev wsJx5ef630 : List Cond := u_ws RJx5ef63 TJx5ef63 0
theorem nmJx5ef63 : ∀ a, a < 0 → ∀ b, b < 0 → a ≠ b → (TJx5ef63 a).2.1 ≠ (TJx5ef63 b).2.1 := by decide +kernel
theorem tyJx5ef63_ok : ∀ k, k < 0 → parseFieldDescriptor (TJx5ef63 k).2.2.1 = some (tyJx5ef63 k) := by decide +kernel
def RJx4d0d8 : String := "java/util/Iterator"
def TJx4d0d8 : u_T := fun k => match k with
  | _ => ("", "", "", false)
def tyJx4d0d8 : Nat → FieldType := fun k => match k with
  | _ => .int
abbrev wsJx4d0d80 : List Cond := u_ws RJx4d0d8 TJx4d0d8 0
theorem nmJx4d0d8 : ∀ a, a < 0 → ∀ b, b < 0 → a ≠ b → (TJx4d0d8 a).2.1 ≠ (TJx4d0d8 b).2.1 := by decide +kernel
theorem tyJx4d0d8_ok : ∀ k, k < 0 → parseFieldDescriptor (TJx4d0d8 k).2.2.1 = some (tyJx4d0d8 k) := by decide +kernel
def RJxbd725 : String := "java/util/List"
def TJxbd725 : u_T := fun k => match k with
  | _ => ("", "", "", false)
def tyJxbd725 : Nat → FieldType := fun k => match k with
  | _ => .int
abbrev wsJxbd7250 : List Cond := u_ws RJxbd725 TJxbd725 0
theorem nmJxbd725 : ∀ a, a < 0 → ∀ b, b < 0 → a ≠ b → (TJxbd725 a).2.1 ≠ (TJxbd725 b).2.1 := by decide +kernel
theorem tyJxbd725_ok : ∀ k, k < 0 → parseFieldDescriptor (TJxbd725 k).2.2.1 = some (tyJxbd725 k) := by decide +kernel
def RJ15 : String := "java/util/Objects"
def TJ15 : u_T := fun k => match k with
  | _ => ("", "", "", false)
def tyJ15 : Nat → FieldType := fun k => match k with
  | _ => .int
abbrev wsJ150 : List Cond := u_ws RJ15 TJ15 0
theorem nmJ15 : ∀ a, a < 0 → ∀ b, b < 0 → a ≠ b → (TJ15 a).2.1 ≠ (TJ15 b).2.1 := by decide +kernel
theorem tyJ15_ok : ∀ k, k < 0 → parseFieldDescriptor (TJ15 k).2.2.1 = some (tyJ15 k) := by decide +kernel
abbrev cJ15_checkIndex_7cf53 : ByteArray := prog_33_method_17_code
def yJ15_checkIndex_7cf53 : MethodName := ⟨RJ15, "checkIndex", "(II)I"⟩
def RJxf0a74 : String := "java/util/RandomAccess"
def TJxf0a74 : u_T := fun k => match k with
  | _ => ("", "", "", false)
def tyJxf0a74 : Nat → FieldType := fun k => match k with
  | _ => .int
abbrev wsJxf0a740 : List Cond := u_ws RJxf0a74 TJxf0a74 0
theorem nmJxf0a74 : ∀ a, a < 0 → ∀ b, b < 0 → a ≠ b → (TJxf0a74 a).2.1 ≠ (TJxf0a74 b).2.1 := by decide +kernel
theorem tyJxf0a74_ok : ∀ k, k < 0 → parseFieldDescriptor (TJxf0a74 k).2.2.1 = some (tyJxf0a74 k) := by decide +kernel
def RJxa66e6 : String := "java/util/SequencedCollection"
def TJxa66e6 : u_T := fun k => match k with
  | _ => ("", "", "", false)
def tyJxa66e6 : Nat → FieldType := fun k => match k with
  | _ => .int
abbrev wsJxa66e60 : List Cond := u_ws RJxa66e6 TJxa66e6 0
theorem nmJxa66e6 : ∀ a, a < 0 → ∀ b, b < 0 → a ≠ b → (TJxa66e6 a).2.1 ≠ (TJxa66e6 b).2.1 := by decide +kernel
theorem tyJxa66e6_ok : ∀ k, k < 0 → parseFieldDescriptor (TJxa66e6 k).2.2.1 = some (tyJxa66e6 k) := by decide +kernel
def RJ8 : String := "jdk/internal/util/ArraysSupport"
def TJ8 : u_T := fun k => match k with
  | _ => ("", "", "", false)
def tyJ8 : Nat → FieldType := fun k => match k with
  | _ => .int
abbrev wsJ80 : List Cond := u_ws RJ8 TJ8 0
theorem nmJ8 : ∀ a, a < 0 → ∀ b, b < 0 → a ≠ b → (TJ8 a).2.1 ≠ (TJ8 b).2.1 := by decide +kernel
theorem tyJ8_ok : ∀ k, k < 0 → parseFieldDescriptor (TJ8 k).2.2.1 = some (tyJ8 k) := by decide +kernel
abbrev cJ8_newLength_cabcc : ByteArray := prog_36_method_27_code
def yJ8_newLength_cabcc : MethodName := ⟨RJ8, "newLength", "(III)I"⟩
abbrev cJ8_hugeLength_7cf53 : ByteArray := prog_36_method_28_code
def yJ8_hugeLength_7cf53 : MethodName := ⟨RJ8, "hugeLength", "(II)I"⟩
def RJ3 : String := "jdk/internal/util/Preconditions"
def TJ3 : u_T := fun k => match k with
  | _ => ("", "", "", false)
def tyJ3 : Nat → FieldType := fun k => match k with
  | _ => .int
abbrev wsJ30 : List Cond := u_ws RJ3 TJ3 0
theorem nmJ3 : ∀ a, a < 0 → ∀ b, b < 0 → a ≠ b → (TJ3 a).2.1 ≠ (TJ3 b).2.1 := by decide +kernel
theorem tyJ3_ok : ∀ k, k < 0 → parseFieldDescriptor (TJ3 k).2.2.1 = some (tyJ3 k) := by decide +kernel
abbrev cJ3_checkIndex_8e157 : ByteArray := prog_37_method_11_code
def yJ3_checkIndex_8e157 : MethodName := ⟨RJ3, "checkIndex", "(IILjava/util/function/BiFunction;)I"⟩
def RL : String := "ShuffleHallLaw"
abbrev cL_deck : ByteArray := method_3_code
def yL_deck : MethodName := ⟨RL, "deck", "(LShuffleHall;I[J)I"⟩
abbrev cL_shuffle : ByteArray := method_4_code
def yL_shuffle : MethodName := ⟨RL, "shuffle", "(LShuffleHall;IIII[J)I"⟩
abbrev cL_undo : ByteArray := method_5_code
def yL_undo : MethodName := ⟨RL, "undo", "(LShuffleHall;I[J)I"⟩
abbrev cL_turn : ByteArray := method_6_code
def yL_turn : MethodName := ⟨RL, "turn", "(LShuffleHall;II[J)I"⟩
abbrev cL_sequence : ByteArray := method_7_code
def yL_sequence : MethodName := ⟨RL, "sequence", "(LShuffleHall;[J)I"⟩
abbrev cL_step : ByteArray := method_8_code
def yL_step : MethodName := ⟨RL, "step", "(LShuffleHall;III[J)I"⟩
abbrev cL_perform : ByteArray := method_9_code
def yL_perform : MethodName := ⟨RL, "perform", "(LShuffleHall;III[J)I"⟩
abbrev cL_card : ByteArray := method_10_code
def yL_card : MethodName := ⟨RL, "card", "(LShuffleHall;II[J)I"⟩
abbrev cL_find : ByteArray := method_11_code
def yL_find : MethodName := ⟨RL, "find", "(LShuffleHall;IIZ[J)I"⟩
abbrev cL_ofDeck : ByteArray := method_12_code
def yL_ofDeck : MethodName := ⟨RL, "ofDeck", "(LShuffleHall;II[J)I"⟩
abbrev cL_keeps : ByteArray := method_13_code
def yL_keeps : MethodName := ⟨RL, "keeps", "(LShuffleHall;II[J)I"⟩
abbrev cL_chance : ByteArray := method_14_code
def yL_chance : MethodName := ⟨RL, "chance", "(LShuffleHall;II[D)I"⟩
abbrev cL_far : ByteArray := method_15_code
def yL_far : MethodName := ⟨RL, "far", "(LShuffleHall;I[D)I"⟩
abbrev cL_alike : ByteArray := method_16_code
def yL_alike : MethodName := ⟨RL, "alike", "(LShuffleHall;II[J)I"⟩
abbrev cL_ofSequence : ByteArray := method_17_code
def yL_ofSequence : MethodName := ⟨RL, "ofSequence", "(LShuffleHall;II[J)I"⟩
abbrev cL_period : ByteArray := method_18_code
def yL_period : MethodName := ⟨RL, "period", "(LShuffleHall;II[J)I"⟩
abbrev cL_many : ByteArray := method_19_code
def yL_many : MethodName := ⟨RL, "many", "(LShuffleHall;I[J)I"⟩
abbrev cL_toTop : ByteArray := method_20_code
def yL_toTop : MethodName := ⟨RL, "toTop", "(LShuffleHall;II[J)I"⟩
abbrev cL_goes : ByteArray := method_21_code
def yL_goes : MethodName := ⟨RL, "goes", "(LShuffleHall;IIII[J)I"⟩
abbrev cL_best : ByteArray := method_22_code
def yL_best : MethodName := ⟨RL, "best", "(LShuffleHall;I[J)I"⟩
abbrev cL_riffle : ByteArray := method_23_code
def yL_riffle : MethodName := ⟨RL, "riffle", "(LShuffleHall;I[J)I"⟩
abbrev cL_law : ByteArray := code
def yL_law : MethodName := ⟨RL, "law", "([I)Z"⟩
abbrev vwCl : List vw_C := [(RJx35411, TJx35411, 4), (RJx4a65c, TJx4a65c, 3), (RX1, TX1, 4), (RX3, TX3, 3), (RX4, TX4, 3), (RX6, TX6, 8), (RX7, TX7, 5), (RX8, TX8, 2), (RX9, TX9, 5)]
end
section
/-! ===== MY OWN LAYER: an abstract heap (address -> what lies there), one judgement, one contract ===== -/
theorem inX1 : ∀ w ∈ wsX10, w ∈ lw_tbl := by decide +kernel
theorem inX3 : ∀ w ∈ wsX30, w ∈ lw_tbl := by decide +kernel
theorem inX4 : ∀ w ∈ wsX40, w ∈ lw_tbl := by decide +kernel
theorem inX6 : ∀ w ∈ wsX60, w ∈ lw_tbl := by decide +kernel
theorem inX7 : ∀ w ∈ wsX70, w ∈ lw_tbl := by decide +kernel
theorem inX8 : ∀ w ∈ wsX80, w ∈ lw_tbl := by decide +kernel
theorem inX9 : ∀ w ∈ wsX90, w ∈ lw_tbl := by decide +kernel
theorem inJL : ∀ w ∈ wsJx4a65c0, w ∈ lw_tbl := by decide +kernel
theorem inJI : ∀ w ∈ wsJx354110, w ∈ lw_tbl := by decide +kernel
abbrev aH : Type := Nat → Option va_E
abbrev aL : Type := List (Nat × Value)
abbrev aPost : Type := (Option Value ⊕ String) → aH → Nat → Prop
/-- the classes' numbers, the arrays' classes, the first address of ours, the empty list's array, the mirror of Object[] -/
abbrev aG : Type := va_G × (Nat → ClassId) × Nat × Nat
abbrev aM : Type := MethodName × ByteArray × Nat × Option FieldType
abbrev aBs (G : aG) : Nat → Prop := fun q => G.2.2.1 ≤ q
def amap (dA : Nat → ClassId) (e : va_E) : va_E := match e with
  | .inl q => .inl (dA q.1, q.2)
  | .inr o => .inr o
def aRep (G : aG) (h : aH) (H : Heap) : Prop := (∀ (a : Nat) (e : va_E), h a = some e → va_at G.1 vwCl (a, amap G.2.1 e) H) ∧ ∀ (a : Nat) (e : va_E), h a = some e → G.2.2.1 ≤ a
def hw (h : aH) (a : Nat) (e : va_E) : aH := fun q => if q = a then some e else h q
theorem hw_s {h : aH} {a : Nat} {e : va_E} : hw h a e a = some e := if_pos rfl
theorem hw_n {h : aH} {a b : Nat} {e : va_E} (n : b ≠ a) : hw h a e b = h b := if_neg n
theorem hw_o {h : aH} {a b : Nat} {e f : va_E} (n : b ≠ a) (g : h b = some f) : hw h a e b = some f := (hw_n n).trans g
def atys (dA : Nat → ClassId) : List (ClassId × FieldType) := [(dA 0, .int), (dA 1, .boolean), (dA 2, .long), (dA 3, .double), (dA 4, .object "java/lang/Object"), (dA 5, .object "ShuffleHall$Deck"), (dA 6, .object "ShuffleHall$Sequence"), (dA 7, .array .int)]
/-- words that are kept though not 'good' -/
def aNk : Cond → Bool
  | .fieldLinkNest .. => true
  | .methodLinkNest .. => true
  | .declares .. => true
  | .castable .. => true
  | _ => false
def aWd : List Cond := lw_tbl.filter goodWord
def aWn : List Cond := lw_tbl.filter aNk
theorem aWd_of {w : Cond} (h : w ∈ lw_tbl) (g : goodWord w = true) : w ∈ aWd := List.mem_filter.mpr ⟨h, g⟩
theorem aWn_of {w : Cond} (h : w ∈ lw_tbl) (g : aNk w = true) : w ∈ aWn := List.mem_filter.mpr ⟨h, g⟩
theorem aNk_warm {w : Cond} {s U : State} (hk : aNk w = true) (hW : s.WarmedH U.vm) (h : va_Nw w s) : va_Nw w U := by
  cases w <;> first | exact va_Nw.warmF hW h | exact va_Nw.warmM hW h | exact va_Nw.warmD hW h | exact va_Nw.warmC hW h | exact absurd hk Bool.false_ne_true
theorem aNk_ot {w : Cond} (hk : aNk w = true) : w.onTables = true := by
  cases w <;> first | rfl | exact absurd hk Bool.false_ne_true
abbrev yItr_has : MethodName := ⟨"java/util/Iterator", "hasNext", "()Z"⟩
abbrev yItr_next : MethodName := ⟨"java/util/Iterator", "next", "()Ljava/lang/Object;"⟩
def aStr : List (String × Nat × String) := [("ShuffleHall", 78, "no shuffle for this deck"), ("ShuffleHall", 53, "there are 4 decks"), ("ShuffleHall", 42, "cards is not 2 to 16"), ("ShuffleHall", 299, "nothing is asked with this number"), ("ShuffleHall", 297, "often is not 1 to 1000000"), ("ShuffleHall", 294, "no such position"), ("ShuffleHall", 292, "no such sequence"), ("ShuffleHall", 290, "no such deck"), ("ShuffleHall", 196, "riffles is not 0 to 12"), ("ShuffleHall", 141, "no such card"), ("ShuffleHall", 134, "a step is no shuffle for this deck"), ("ShuffleHall", 125, "the sequence has 8 steps"), ("ShuffleHall", 120, "kind is not 0 to 9, or number below 0"), ("ShuffleHall", 110, "there are 4 sequences")]
def aNcs : List (String × String) := [("java/lang/IllegalArgumentException", "java/lang/IndexOutOfBoundsException"), ("java/lang/IllegalStateException", "java/lang/IndexOutOfBoundsException"), ("java/lang/IllegalStateException", "java/lang/IllegalArgumentException")]
/-- int[][] can be made -/
def aAOA (U : State) : Prop := (Cond.arrayOver (.array .int)).before #[] U = true
/-- what holds of the tables and of the old heap, at any call -/
def aK (G : aG) (U : State) : Prop :=
  va_K G.1 vwCl (atys G.2.1) U ∧ (∀ w ∈ aWn, va_Nw w U) ∧ (∀ q ∈ aStr, ∃ sa, vk_R q.1 q.2.1 q.2.2 sa U) ∧ G.2.2.1 ≤ U.heap.size ∧
  vx_Zq Bundle.tN "UNASSIGNED_STACK" Bundle.steD (aBs G) U U.heap ∧ vx_Zq Bundle.tN "SUPPRESSED_SENTINEL" Bundle.listD (aBs G) U U.heap ∧
  (va_AO "java/lang/Object" U ∧ va_AO "ShuffleHall$Deck" U ∧ va_AO "ShuffleHall$Sequence" U ∧ aAOA U) ∧
  (va_Fw RJx35411 yItr_has yJx35411_hasNext_aae02 U ∧ va_Fw RJx35411 yItr_next yJx35411_next_0502b U) ∧
  (va_Z "java/util/ArrayList" "DEFAULTCAPACITY_EMPTY_ELEMENTDATA" "[Ljava/lang/Object;" (.ref G.2.2.2) (aBs G) U U.heap ∧ va_T (.object "java/lang/Object") G.2.2.2 0 (fun _ => .null) (aBs G) U U.heap) ∧
  (∃ mi, va_Mi "[Ljava/lang/Object;" mi U) ∧ (∀ q ∈ aNcs, va_Nc q.1 q.2 U)
theorem aAOA.moved {u U : State} (hvm : u.vm.Alike U.vm) (h : aAOA u) : aAOA U := by
  obtain ⟨comp, c, k, h1, h2, h3, h4, h5⟩ : ∃ comp c k, u.vm.findClass (FieldType.array .int).toString = some comp ∧ (u.vm.classes.findIdx? fun (x : Class) => match x.kind with | .array component _ => component == comp | _ => false) = some c ∧ u.vm.classes[c]? = some k ∧ k.kind = .array comp (.array .int) ∧ u.vm.findClass ("[" ++ (FieldType.array .int).toString) = some c := by
    unfold aAOA Cond.before at h
    simp only [Cond.holds, Cond.value, beq_iff_eq] at h
    cases hc : u.vm.findClass (FieldType.array .int).toString with
    | none => simp [hc] at h
    | some comp =>
      simp only [hc, Option.bind_some, Option.bind_eq_some_iff, Option.map_eq_some_iff] at h
      obtain ⟨c, hi, k, hk, hb⟩ := h
      obtain ⟨hlt, hp, -⟩ := Array.findIdx?_eq_some_iff_getElem.mp hi
      have hkk : u.vm.classes[c] = k := (Array.getElem?_eq_some_iff.mp hk).2
      rw [hkk] at hp
      cases hkind : k.kind with
      | array component ty =>
        rw [hkind] at hb hp
        simp at hb hp
        exact ⟨comp, c, k, rfl, hi, hk, by rw [hkind, hp, hb.1], hb.2⟩
      | _ => rw [hkind] at hb; simp at hb
  obtain ⟨k', hk', he⟩ := hvm.2.2 _ _ h3
  have hi : (U.vm.classes.findIdx? fun (x : Class) => match x.kind with | .array component _ => component == comp | _ => false) = some c := by
    have e1 := va_idx_bare U.vm comp
    have e2 := va_idx_bare u.vm comp
    have e3 : U.vm.bare = u.vm.bare := by first | exact hvm.bare_eq | exact hvm.bare_eq.symm
    rw [e3] at e1
    exact (e1.symm.trans e2).trans h2
  have hkind : k'.kind = .array comp (.array .int) := by rw [he]; exact h4
  have f1 : U.vm.findClass (FieldType.array .int).toString = some comp := by rw [hvm.findClass]; exact h1
  have f2 : U.vm.findClass ("[" ++ (FieldType.array .int).toString) = some c := by rw [hvm.findClass]; exact h5
  unfold aAOA Cond.before Cond.holds
  simp only [Cond.value]
  rw [f1, Option.bind_some]
  refine (congrArg (fun o : Option Nat => (o.bind (fun c => (U.vm.classes[c]?).map fun (k : Class) => match k.kind with | .array _ ty => decide (ty = FieldType.array .int) && decide (U.vm.findClass ("[" ++ (FieldType.array .int).toString) = some c) | _ => false) == some true)) hi).trans ?_
  simp [hk', hkind, f2]
theorem aK.moved {G : aG} {u U : State} (hW : u.WarmedH U.vm) (hz : u.heap.size ≤ U.heap.size) (hq : ∀ a : Nat, a < u.heap.size → ¬ aBs G a → U.heap[a]? = u.heap[a]?) (h : aK G u) : aK G U := by
  obtain ⟨h1, h2, h3, h4, h5, h6, ⟨h7, h8, h9, h10⟩, ⟨h11, h12⟩, ⟨h13, h14⟩, ⟨mi, h15⟩, h16⟩ := h
  have hv := hW.alike
  refine ⟨h1.moved hv, fun w hw => aNk_warm (List.mem_filter.mp hw).2 hW (h2 w hw), fun q hq => ?_, Nat.le_trans h4 hz, (h5.moved hv).kept hq, (h6.moved hv).kept hq, ⟨h7.moved hv, h8.moved hv, h9.moved hv, h10.moved hv⟩, ⟨va_Fw.moved (by decide) hv h11, va_Fw.moved (by decide) hv h12⟩, ⟨(h13.moved hv).kept hq, (h14.moved hv).kept hq⟩, ⟨mi, h15.moved hv⟩, fun q hq => (h16 q hq).moved hv⟩
  obtain ⟨sa, hs⟩ := h3 q hq
  exact ⟨sa, hs.warm hW⟩
/-- room of a method k levels above the leaves, for mc cells of ms slots -/
def aRoom (k mc ms : Nat) : Room := { frames := k, cells := mc, slots := ms, locals := 40 * k }
abbrev aQf : Type := List Frame → Array Value → State → State → Prop
def aCx (G : aG) (mm : aM) (tb : List (Nat × Nat × Nat × Nat)) (p : Program) (l : Launch) (s : State) (m : MethodId) (args : Array Value) (meth : Method) (c : Code) : Prop :=
  p.tables.exec = Jvm.exec ∧ c.code = mm.2.1 ∧ c.maxLocals = mm.2.2.1 ∧ s.vm.findClass mm.1.cls = some m.cls ∧ (∀ w ∈ aWd, w.before args s = true) ∧ meth.sig.returnType = mm.2.2.2 ∧ meth.locks = false ∧ c.exceptionTable.toList = tableOf tb ∧ aK G s ∧ l.stackTraces = false ∧ meth.name = mm.1.name
/-- THE JUDGEMENT: the machine at pc of method mm, with locals L, stack st and our heap h, comes to an end with Qf -/
def aw (G : aG) (mm : aM) (tb : List (Nat × Nat × Nat × Nat)) (R : Room) (Qf : aQf) (cells slots : Nat) (h : aH) (nx pc : Nat) (L : aL) (st : List Value) : Prop :=
  ∀ (p : Program) (l : Launch) (e : Env) (s : State) (m : MethodId) (args : Array Value) (below : List Frame) (meth : Method) (c : Code) (H : Heap) (locs : List Loc) (ls : Array Slot),
    aCx G mm tb p l s m args meth c → aRep G h H → H.size = nx → va_S (aBs G) s.heap H locs → lv_has ls mm.2.2.1 L →
    W p l e R s m args below meth c H locs cells slots (Qf below args s) (F0 m pc ls st)
/-- the judgement with an exception of class E thrown at pc -/
def awx (G : aG) (mm : aM) (tb : List (Nat × Nat × Nat × Nat)) (R : Room) (Qf : aQf) (cells slots : Nat) (h : aH) (nx pc : Nat) (L : aL) (E : String) : Prop :=
  ∀ (p : Program) (l : Launch) (e : Env) (s : State) (m : MethodId) (args : Array Value) (below : List Frame) (meth : Method) (c : Code) (H : Heap) (locs : List Loc) (ls : Array Slot) (rest : List Value) (q : Nat) (ce : Cell),
    aCx G mm tb p l s m args meth c → aRep G h H → H.size = nx → va_S (aBs G) s.heap H locs → lv_has ls mm.2.2.1 L → H[q]? = some ce → ce.vm = .none → s.vm.findClass E = some ce.cls →
    vx_W p l e R s m args below meth c H locs cells slots (Qf below args s) (F0 m pc ls rest) q
/-- what a method of ours has done at its end -/
def aQc (G : aG) (po : aPost) : Array Value → State → Outcome → State → Prop := fun _ st o t => ∃ (v : Option Value) (h : aH), o = .returned v ∧ aRep G h t.heap ∧ po (.inl v) h t.heap.size ∧ va_F (aBs G) st t
def aXC (G : aG) (po : aPost) : String → State → State → Prop := fun E st t => ∃ h : aH, aRep G h t.heap ∧ po (.inr E) h t.heap.size ∧ va_F (aBs G) st t
def aEnd (G : aG) (po : aPost) (mc ms : Nat) : aQf := fun below args s => vx_MQ below (aQc G po) (aXC G po) args s mc ms (aBs G)
def aPc (G : aG) (as : List Value) (h : aH) (nx : Nat) : Array Value → State → Prop := fun v U => v = as.toArray ∧ aRep G h U.heap ∧ U.heap.size = nx ∧ aK G U
def aws (mm : aM) : List Cond := .code mm.1 mm.2.1 mm.2.2.1 mm.2.2.2 :: aWd
/-- THE CONTRACT of a method: k levels, at most mc new cells of ms slots; called with as in the heap h (nx: the next address), it ends as po says -/
def aMet (G : aG) (mm : aM) (k mc ms : Nat) (as : List Value) (h : aH) (nx : Nat) (po : aPost) : Prop := ∀ l : Launch, l.stackTraces = false → vx_Met l mm.1 (aws mm) (aRoom k mc ms) (aPc G as h nx) (aQc G po) (aXC G po) mc ms (aBs G)
theorem aPc_blind {G : aG} {as : List Value} {h : aH} {nx : Nat} : FrameBlind (aPc G as h nx) := fun a U g mk hp => ⟨hp.1, hp.2.1, hp.2.2.1, hp.2.2.2.moved (State.WarmedH.refl U) (Nat.le_refl _) (fun _ _ _ => rfl)⟩
theorem aWd_good : ∀ w ∈ aWd, (w.onTables && w.keeps) = true ∨ ∃ ty, w = .arrayClass ty := fun _ h => good_of_word (List.mem_filter.mp h).2
theorem aMet_of {G : aG} {mm : aM} {k mc ms : Nat} {as : List Value} {h : aH} {nx : Nat} {po : aPost} (hy : plainName mm.1.cls = true) (hn : (lg_sl as).length ≤ mm.2.2.1)
    (body : aw G mm [] (aRoom k mc ms) (aEnd G po mc ms) 0 0 h nx 0 (lv_args 0 as) []) : aMet G mm k mc ms as h nx po := by
  intro l hl
  refine vx_ofW (cc := mm.2.1) (maxL := mm.2.2.1) (ret := mm.2.2.2) (ws' := aWd) hy rfl ?_
  intro p e s m args below meth c s₁ B hml ht hp
  obtain ⟨rfl, hR, hz, hK⟩ := hp
  have hts := atoms_spec (ws := aws mm) B.pre
  have ht' : c.exceptionTable.toList = tableOf [] := by
    cases hx : c.exceptionTable.toList with
    | nil => rfl
    | cons x xs => exact (ht x (by rw [hx]; exact List.mem_cons_self)).elim
  have he := lv_entry as (n := mm.2.2.1) hn
  rw [lg_entry_eq]
  exact body p l e s m _ below meth c s.heap [] _ ⟨B.exec, B.bytes, hml, findClass_of_methodNamed B.named, fun w hw => hts w (List.mem_cons_of_mem _ hw), B.returns, B.notSynchronized, ht', hK, hl, (name_of_methodNamed B.named B.method).1⟩ hR hz va_S.rf he
end
section
/-! ===== ROWS of the judgement ===== -/
def aGet : aL → Nat → Option Value
  | [], _ => none
  | q :: l, i => match Nat.beq q.1 i with
    | true => some q.2
    | false => aGet l i
theorem aGet_mem {L : aL} {i : Nat} {v : Value} : aGet L i = some v → (i, v) ∈ L := by
  induction L with
  | nil => intro h; cases h
  | cons q l ih =>
    intro h
    unfold aGet at h
    cases hb : Nat.beq q.1 i with
    | true =>
      rw [hb] at h
      have e1 : q.1 = i := Nat.eq_of_beq_eq_true hb
      have e2 : q.2 = v := Option.some.inj h
      rw [← e1, ← e2]
      exact List.mem_cons_self
    | false =>
      rw [hb] at h
      exact List.mem_cons_of_mem _ (ih h)
theorem aGet_at {ls : Array Slot} {nL : Nat} {L : aL} (V : lv_has ls nL L) {i : Nat} {v : Value} (h : aGet L i = some v) : ls[i]? = some (.val v) := V.2.2 (i, v) (aGet_mem h)
theorem aGet_ix {L : aL} {i : Nat} {v : Value} (h : aGet L i = some v) : ∃ k : Nat, L[k]? = some (i, v) := List.getElem?_of_mem (aGet_mem h)
def aSet1 (L : aL) (i : Nat) (v : Value) : aL := (i, v) :: L.filter (fun q => !(q.1 == i) && !(q.1 + 1 == i && q.2.category == 2))
def aSet2 (L : aL) (i : Nat) (v : Value) : aL := (i, v) :: L.filter (fun q => !(q.1 == i) && (!(q.1 == i + 1) && !(q.1 + 1 == i && q.2.category == 2)))
section AROWS
variable {G : aG} {mm : aM} {tb : List (Nat × Nat × Nat × Nat)} {R : Room} {Qf : aQf} {cells slots : Nat} {h : aH} {nx pc : Nat} {L : aL} {st : List Value}
theorem aw_iload_n {k : Fin 4} {x : Int32} (hd : decode mm.2.1 pc = .ok (.iload_n k, 1)) (hl : aGet L (k : Nat) = some (.int x)) (kk : aw G mm tb R Qf cells slots h nx (pc + 1) L (.int x :: st)) : aw G mm tb R Qf cells slots h nx pc L st := by
  intro p l e s m args below meth c H locs ls C RR Z S V
  exact lv_iload_n C.1 C.2.1 hd rfl (aGet_at V hl) (kk p l e s m args below meth c H locs ls C RR Z S V)
theorem aw_iload {i : Nat} {x : Int32} (hd : decode mm.2.1 pc = .ok (.iload i, 2)) (hl : aGet L i = some (.int x)) (kk : aw G mm tb R Qf cells slots h nx (pc + 2) L (.int x :: st)) : aw G mm tb R Qf cells slots h nx pc L st := by
  intro p l e s m args below meth c H locs ls C RR Z S V
  exact lv_iload C.1 C.2.1 hd (aGet_at V hl) (kk p l e s m args below meth c H locs ls C RR Z S V)
theorem aw_lload_n {k : Fin 4} {x : Int64} (hd : decode mm.2.1 pc = .ok (.lload_n k, 1)) (hl : aGet L (k : Nat) = some (.long x)) (kk : aw G mm tb R Qf cells slots h nx (pc + 1) L (.long x :: st)) : aw G mm tb R Qf cells slots h nx pc L st := by
  intro p l e s m args below meth c H locs ls C RR Z S V
  exact lv_lload_n C.1 C.2.1 hd rfl (aGet_at V hl) (kk p l e s m args below meth c H locs ls C RR Z S V)
theorem aw_lload {i : Nat} {x : Int64} (hd : decode mm.2.1 pc = .ok (.lload i, 2)) (hl : aGet L i = some (.long x)) (kk : aw G mm tb R Qf cells slots h nx (pc + 2) L (.long x :: st)) : aw G mm tb R Qf cells slots h nx pc L st := by
  intro p l e s m args below meth c H locs ls C RR Z S V
  exact lv_lload C.1 C.2.1 hd (aGet_at V hl) (kk p l e s m args below meth c H locs ls C RR Z S V)
theorem aw_dload_n {k : Fin 4} {x : UInt64} (hd : decode mm.2.1 pc = .ok (.dload_n k, 1)) (hl : aGet L (k : Nat) = some (.double x)) (kk : aw G mm tb R Qf cells slots h nx (pc + 1) L (.double x :: st)) : aw G mm tb R Qf cells slots h nx pc L st := by
  intro p l e s m args below meth c H locs ls C RR Z S V
  exact lv_dload_n C.1 C.2.1 hd rfl (aGet_at V hl) (kk p l e s m args below meth c H locs ls C RR Z S V)
theorem aw_dload {i : Nat} {x : UInt64} (hd : decode mm.2.1 pc = .ok (.dload i, 2)) (hl : aGet L i = some (.double x)) (kk : aw G mm tb R Qf cells slots h nx (pc + 2) L (.double x :: st)) : aw G mm tb R Qf cells slots h nx pc L st := by
  intro p l e s m args below meth c H locs ls C RR Z S V
  exact lv_dload C.1 C.2.1 hd (aGet_at V hl) (kk p l e s m args below meth c H locs ls C RR Z S V)
theorem aw_aload_n {k : Fin 4} {x : Nat} (hd : decode mm.2.1 pc = .ok (.aload_n k, 1)) (hl : aGet L (k : Nat) = some (.ref x)) (kk : aw G mm tb R Qf cells slots h nx (pc + 1) L (.ref x :: st)) : aw G mm tb R Qf cells slots h nx pc L st := by
  intro p l e s m args below meth c H locs ls C RR Z S V
  exact lv_aload_n C.1 C.2.1 hd rfl (aGet_at V hl) (kk p l e s m args below meth c H locs ls C RR Z S V)
theorem aw_aload {i : Nat} {x : Nat} (hd : decode mm.2.1 pc = .ok (.aload i, 2)) (hl : aGet L i = some (.ref x)) (kk : aw G mm tb R Qf cells slots h nx (pc + 2) L (.ref x :: st)) : aw G mm tb R Qf cells slots h nx pc L st := by
  intro p l e s m args below meth c H locs ls C RR Z S V
  exact lv_aload C.1 C.2.1 hd (aGet_at V hl) (kk p l e s m args below meth c H locs ls C RR Z S V)
theorem aw_aload_nN {k : Fin 4} (hd : decode mm.2.1 pc = .ok (.aload_n k, 1)) (hl : aGet L (k : Nat) = some .null) (kk : aw G mm tb R Qf cells slots h nx (pc + 1) L (.null :: st)) : aw G mm tb R Qf cells slots h nx pc L st := by
  intro p l e s m args below meth c H locs ls C RR Z S V
  exact lv_aload_nN C.1 C.2.1 hd rfl (aGet_at V hl) (kk p l e s m args below meth c H locs ls C RR Z S V)
theorem aw_aloadN {i : Nat} (hd : decode mm.2.1 pc = .ok (.aload i, 2)) (hl : aGet L i = some .null) (kk : aw G mm tb R Qf cells slots h nx (pc + 2) L (.null :: st)) : aw G mm tb R Qf cells slots h nx pc L st := by
  intro p l e s m args below meth c H locs ls C RR Z S V
  exact lv_aloadN C.1 C.2.1 hd (aGet_at V hl) (kk p l e s m args below meth c H locs ls C RR Z S V)
theorem aw_istore_n {k : Fin 4} {x : Int32} {L' : aL} (hd : decode mm.2.1 pc = .ok (.istore_n k, 1)) (hn : (k : Nat) < mm.2.2.1) (hl : aSet1 L (k : Nat) (.int x) = L') (kk : aw G mm tb R Qf cells slots h nx (pc + 1) L' st) : aw G mm tb R Qf cells slots h nx pc L (.int x :: st) := by
  intro p l e s m args below meth c H locs ls C RR Z S V
  exact lv_istore_n C.1 C.2.1 hd rfl V hn hl (fun ls V => kk p l e s m args below meth c H locs ls C RR Z S V)
theorem aw_istore {i : Nat} {x : Int32} {L' : aL} (hd : decode mm.2.1 pc = .ok (.istore i, 2)) (hn : i < mm.2.2.1) (hl : aSet1 L i (.int x) = L') (kk : aw G mm tb R Qf cells slots h nx (pc + 2) L' st) : aw G mm tb R Qf cells slots h nx pc L (.int x :: st) := by
  intro p l e s m args below meth c H locs ls C RR Z S V
  exact lv_istore C.1 C.2.1 hd V hn hl (fun ls V => kk p l e s m args below meth c H locs ls C RR Z S V)
theorem aw_lstore_n {k : Fin 4} {x : Int64} {L' : aL} (hd : decode mm.2.1 pc = .ok (.lstore_n k, 1)) (hn : (k : Nat) + 1 < mm.2.2.1) (hl : aSet2 L (k : Nat) (.long x) = L') (kk : aw G mm tb R Qf cells slots h nx (pc + 1) L' st) : aw G mm tb R Qf cells slots h nx pc L (.long x :: st) := by
  intro p l e s m args below meth c H locs ls C RR Z S V
  exact lv_lstore_n C.1 C.2.1 hd rfl V hn hl (fun ls V => kk p l e s m args below meth c H locs ls C RR Z S V)
theorem aw_lstore {i : Nat} {x : Int64} {L' : aL} (hd : decode mm.2.1 pc = .ok (.lstore i, 2)) (hn : i + 1 < mm.2.2.1) (hl : aSet2 L i (.long x) = L') (kk : aw G mm tb R Qf cells slots h nx (pc + 2) L' st) : aw G mm tb R Qf cells slots h nx pc L (.long x :: st) := by
  intro p l e s m args below meth c H locs ls C RR Z S V
  exact lv_lstore C.1 C.2.1 hd V hn hl (fun ls V => kk p l e s m args below meth c H locs ls C RR Z S V)
theorem aw_dstore_n {k : Fin 4} {x : UInt64} {L' : aL} (hd : decode mm.2.1 pc = .ok (.dstore_n k, 1)) (hn : (k : Nat) + 1 < mm.2.2.1) (hl : aSet2 L (k : Nat) (.double x) = L') (kk : aw G mm tb R Qf cells slots h nx (pc + 1) L' st) : aw G mm tb R Qf cells slots h nx pc L (.double x :: st) := by
  intro p l e s m args below meth c H locs ls C RR Z S V
  exact lv_dstore_n C.1 C.2.1 hd rfl V hn hl (fun ls V => kk p l e s m args below meth c H locs ls C RR Z S V)
theorem aw_dstore {i : Nat} {x : UInt64} {L' : aL} (hd : decode mm.2.1 pc = .ok (.dstore i, 2)) (hn : i + 1 < mm.2.2.1) (hl : aSet2 L i (.double x) = L') (kk : aw G mm tb R Qf cells slots h nx (pc + 2) L' st) : aw G mm tb R Qf cells slots h nx pc L (.double x :: st) := by
  intro p l e s m args below meth c H locs ls C RR Z S V
  exact lv_dstore C.1 C.2.1 hd V hn hl (fun ls V => kk p l e s m args below meth c H locs ls C RR Z S V)
theorem aw_astore_n {k : Fin 4} {x : Nat} {L' : aL} (hd : decode mm.2.1 pc = .ok (.astore_n k, 1)) (hn : (k : Nat) < mm.2.2.1) (hl : aSet1 L (k : Nat) (.ref x) = L') (kk : aw G mm tb R Qf cells slots h nx (pc + 1) L' st) : aw G mm tb R Qf cells slots h nx pc L (.ref x :: st) := by
  intro p l e s m args below meth c H locs ls C RR Z S V
  exact lv_astore_n C.1 C.2.1 hd rfl V hn hl (fun ls V => kk p l e s m args below meth c H locs ls C RR Z S V)
theorem aw_astore {i : Nat} {x : Nat} {L' : aL} (hd : decode mm.2.1 pc = .ok (.astore i, 2)) (hn : i < mm.2.2.1) (hl : aSet1 L i (.ref x) = L') (kk : aw G mm tb R Qf cells slots h nx (pc + 2) L' st) : aw G mm tb R Qf cells slots h nx pc L (.ref x :: st) := by
  intro p l e s m args below meth c H locs ls C RR Z S V
  exact lv_astore C.1 C.2.1 hd V hn hl (fun ls V => kk p l e s m args below meth c H locs ls C RR Z S V)
theorem aw_astore_nN {k : Fin 4} {L' : aL} (hd : decode mm.2.1 pc = .ok (.astore_n k, 1)) (hn : (k : Nat) < mm.2.2.1) (hl : aSet1 L (k : Nat) .null = L') (kk : aw G mm tb R Qf cells slots h nx (pc + 1) L' st) : aw G mm tb R Qf cells slots h nx pc L (.null :: st) := by
  intro p l e s m args below meth c H locs ls C RR Z S V
  exact lv_astore_nN C.1 C.2.1 hd rfl V hn hl (fun ls V => kk p l e s m args below meth c H locs ls C RR Z S V)
theorem aw_astoreN {i : Nat} {L' : aL} (hd : decode mm.2.1 pc = .ok (.astore i, 2)) (hn : i < mm.2.2.1) (hl : aSet1 L i .null = L') (kk : aw G mm tb R Qf cells slots h nx (pc + 2) L' st) : aw G mm tb R Qf cells slots h nx pc L (.null :: st) := by
  intro p l e s m args below meth c H locs ls C RR Z S V
  exact lv_astoreN C.1 C.2.1 hd V hn hl (fun ls V => kk p l e s m args below meth c H locs ls C RR Z S V)
theorem aw_iinc {i : Nat} {n : Int} {x v : Int32} {L' : aL} (hd : decode mm.2.1 pc = .ok (.iinc i n, 3)) (hg : aGet L i = some (.int x)) (hv : x + Int32.ofInt n = v) (hn : i < mm.2.2.1) (hl : aSet1 L i (.int v) = L') (kk : aw G mm tb R Qf cells slots h nx (pc + 3) L' st) : aw G mm tb R Qf cells slots h nx pc L st := by
  intro p l e s m args below meth c H locs ls C RR Z S V
  obtain ⟨k, hk⟩ := aGet_ix hg
  exact lv_iinc C.1 C.2.1 hd V hk hv hn hl (fun ls V => kk p l e s m args below meth c H locs ls C RR Z S V)
theorem aw_iconst {n : Int} {v : Int32} (hd : decode mm.2.1 pc = .ok (.iconst n, 1)) (hv : Int32.ofInt n = v) (kk : aw G mm tb R Qf cells slots h nx (pc + 1) L (.int v :: st)) : aw G mm tb R Qf cells slots h nx pc L st := by
  intro p l e s m args below meth c H locs ls C RR Z S V
  exact lv_iconst C.1 C.2.1 hd hv (kk p l e s m args below meth c H locs ls C RR Z S V)
theorem aw_bipush {n : Int} {v : Int32} (hd : decode mm.2.1 pc = .ok (.bipush n, 2)) (hv : (Int8.ofInt n).toInt32 = v) (kk : aw G mm tb R Qf cells slots h nx (pc + 2) L (.int v :: st)) : aw G mm tb R Qf cells slots h nx pc L st := by
  intro p l e s m args below meth c H locs ls C RR Z S V
  exact lv_bipush C.1 C.2.1 hd hv (kk p l e s m args below meth c H locs ls C RR Z S V)
theorem aw_sipush {n : Int} {v : Int32} (hd : decode mm.2.1 pc = .ok (.sipush n, 3)) (hv : (Int16.ofInt n).toInt32 = v) (kk : aw G mm tb R Qf cells slots h nx (pc + 3) L (.int v :: st)) : aw G mm tb R Qf cells slots h nx pc L st := by
  intro p l e s m args below meth c H locs ls C RR Z S V
  exact lv_sipush C.1 C.2.1 hd hv (kk p l e s m args below meth c H locs ls C RR Z S V)
theorem aw_lconst {n : Fin 2} {v : Int64} (hd : decode mm.2.1 pc = .ok (.lconst n, 1)) (hv : Int64.ofNat (n : Nat) = v) (kk : aw G mm tb R Qf cells slots h nx (pc + 1) L (.long v :: st)) : aw G mm tb R Qf cells slots h nx pc L st := by
  intro p l e s m args below meth c H locs ls C RR Z S V
  exact lv_lconst C.1 C.2.1 hd hv (kk p l e s m args below meth c H locs ls C RR Z S V)
theorem aw_dconst0 (hd : decode mm.2.1 pc = .ok (.dconst 0, 1)) (kk : aw G mm tb R Qf cells slots h nx (pc + 1) L (.double FP.dconst0 :: st)) : aw G mm tb R Qf cells slots h nx pc L st := by
  intro p l e s m args below meth c H locs ls C RR Z S V
  exact lv_dconst0 C.1 C.2.1 hd (kk p l e s m args below meth c H locs ls C RR Z S V)
theorem aw_dconst1 (hd : decode mm.2.1 pc = .ok (.dconst 1, 1)) (kk : aw G mm tb R Qf cells slots h nx (pc + 1) L (.double FP.dconst1 :: st)) : aw G mm tb R Qf cells slots h nx pc L st := by
  intro p l e s m args below meth c H locs ls C RR Z S V
  exact lv_dconst1 C.1 C.2.1 hd (kk p l e s m args below meth c H locs ls C RR Z S V)
theorem aw_null (hd : decode mm.2.1 pc = .ok (.aconst_null, 1)) (kk : aw G mm tb R Qf cells slots h nx (pc + 1) L (.null :: st)) : aw G mm tb R Qf cells slots h nx pc L st := by
  intro p l e s m args below meth c H locs ls C RR Z S V
  exact lv_null C.1 C.2.1 hd (kk p l e s m args below meth c H locs ls C RR Z S V)
theorem aw_ldc {i : Nat} {v : Int32} (hd : decode mm.2.1 pc = .ok (.ldc i, 2)) (hc : Cond.constant mm.1.cls i v ∈ lw_tbl) (kk : aw G mm tb R Qf cells slots h nx (pc + 2) L (.int v :: st)) : aw G mm tb R Qf cells slots h nx pc L st := by
  intro p l e s m args below meth c H locs ls C RR Z S V
  exact lv_ldc C.1 C.2.1 C.2.2.2.1 (C.2.2.2.2.1 _ (aWd_of hc rfl)) hd (kk p l e s m args below meth c H locs ls C RR Z S V)
theorem aw_ldcw {i : Nat} {v : Int32} (hd : decode mm.2.1 pc = .ok (.ldc_w i, 3)) (hc : Cond.constant mm.1.cls i v ∈ lw_tbl) (kk : aw G mm tb R Qf cells slots h nx (pc + 3) L (.int v :: st)) : aw G mm tb R Qf cells slots h nx pc L st := by
  intro p l e s m args below meth c H locs ls C RR Z S V
  exact lv_ldcw C.1 C.2.1 C.2.2.2.1 (C.2.2.2.2.1 _ (aWd_of hc rfl)) hd (kk p l e s m args below meth c H locs ls C RR Z S V)
theorem aw_ldc2 {i : Nat} {v : Int64} (hd : decode mm.2.1 pc = .ok (.ldc2_w i, 3)) (hc : Cond.constantLong mm.1.cls i v ∈ lw_tbl) (kk : aw G mm tb R Qf cells slots h nx (pc + 3) L (.long v :: st)) : aw G mm tb R Qf cells slots h nx pc L st := by
  intro p l e s m args below meth c H locs ls C RR Z S V
  exact lv_ldc2 C.1 C.2.1 C.2.2.2.1 (C.2.2.2.2.1 _ (aWd_of hc rfl)) hd (kk p l e s m args below meth c H locs ls C RR Z S V)
theorem aw_iadd {x y : Int32} (hd : decode mm.2.1 pc = .ok (.iadd, 1)) (kk : aw G mm tb R Qf cells slots h nx (pc + 1) L (.int (x + y) :: st)) : aw G mm tb R Qf cells slots h nx pc L (.int y :: .int x :: st) := by
  intro p l e s m args below meth c H locs ls C RR Z S V
  exact lv_iadd C.1 C.2.1 hd (kk p l e s m args below meth c H locs ls C RR Z S V)
theorem aw_isub {x y : Int32} (hd : decode mm.2.1 pc = .ok (.isub, 1)) (kk : aw G mm tb R Qf cells slots h nx (pc + 1) L (.int (x - y) :: st)) : aw G mm tb R Qf cells slots h nx pc L (.int y :: .int x :: st) := by
  intro p l e s m args below meth c H locs ls C RR Z S V
  exact lv_isub C.1 C.2.1 hd (kk p l e s m args below meth c H locs ls C RR Z S V)
theorem aw_imul {x y : Int32} (hd : decode mm.2.1 pc = .ok (.imul, 1)) (kk : aw G mm tb R Qf cells slots h nx (pc + 1) L (.int (x * y) :: st)) : aw G mm tb R Qf cells slots h nx pc L (.int y :: .int x :: st) := by
  intro p l e s m args below meth c H locs ls C RR Z S V
  exact lv_imul C.1 C.2.1 hd (kk p l e s m args below meth c H locs ls C RR Z S V)
theorem aw_iand {x y : Int32} (hd : decode mm.2.1 pc = .ok (.iand, 1)) (kk : aw G mm tb R Qf cells slots h nx (pc + 1) L (.int (x &&& y) :: st)) : aw G mm tb R Qf cells slots h nx pc L (.int y :: .int x :: st) := by
  intro p l e s m args below meth c H locs ls C RR Z S V
  exact lv_iand C.1 C.2.1 hd (kk p l e s m args below meth c H locs ls C RR Z S V)
theorem aw_ior {x y : Int32} (hd : decode mm.2.1 pc = .ok (.ior, 1)) (kk : aw G mm tb R Qf cells slots h nx (pc + 1) L (.int (x ||| y) :: st)) : aw G mm tb R Qf cells slots h nx pc L (.int y :: .int x :: st) := by
  intro p l e s m args below meth c H locs ls C RR Z S V
  exact lv_ior C.1 C.2.1 hd (kk p l e s m args below meth c H locs ls C RR Z S V)
theorem aw_ixor {x y : Int32} (hd : decode mm.2.1 pc = .ok (.ixor, 1)) (kk : aw G mm tb R Qf cells slots h nx (pc + 1) L (.int (x ^^^ y) :: st)) : aw G mm tb R Qf cells slots h nx pc L (.int y :: .int x :: st) := by
  intro p l e s m args below meth c H locs ls C RR Z S V
  exact lv_ixor C.1 C.2.1 hd (kk p l e s m args below meth c H locs ls C RR Z S V)
theorem aw_ishl {x y : Int32} (hd : decode mm.2.1 pc = .ok (.ishl, 1)) (kk : aw G mm tb R Qf cells slots h nx (pc + 1) L (.int (x <<< (y &&& 31)) :: st)) : aw G mm tb R Qf cells slots h nx pc L (.int y :: .int x :: st) := by
  intro p l e s m args below meth c H locs ls C RR Z S V
  exact lv_ishl C.1 C.2.1 hd (kk p l e s m args below meth c H locs ls C RR Z S V)
theorem aw_ishr {x y : Int32} (hd : decode mm.2.1 pc = .ok (.ishr, 1)) (kk : aw G mm tb R Qf cells slots h nx (pc + 1) L (.int (x >>> (y &&& 31)) :: st)) : aw G mm tb R Qf cells slots h nx pc L (.int y :: .int x :: st) := by
  intro p l e s m args below meth c H locs ls C RR Z S V
  exact lv_ishr C.1 C.2.1 hd (kk p l e s m args below meth c H locs ls C RR Z S V)
theorem aw_iushr {x y v : Int32} (hd : decode mm.2.1 pc = .ok (.iushr, 1)) (hv : (x.toUInt32 >>> (y.toUInt32 &&& Int32.toUInt32 31)).toInt32 = v) (kk : aw G mm tb R Qf cells slots h nx (pc + 1) L (.int v :: st)) : aw G mm tb R Qf cells slots h nx pc L (.int y :: .int x :: st) := by
  intro p l e s m args below meth c H locs ls C RR Z S V
  exact lv_iushr C.1 C.2.1 hd hv (kk p l e s m args below meth c H locs ls C RR Z S V)
theorem aw_ineg {x : Int32} (hd : decode mm.2.1 pc = .ok (.ineg, 1)) (kk : aw G mm tb R Qf cells slots h nx (pc + 1) L (.int (-x) :: st)) : aw G mm tb R Qf cells slots h nx pc L (.int x :: st) := by
  intro p l e s m args below meth c H locs ls C RR Z S V
  exact lv_ineg C.1 C.2.1 hd (kk p l e s m args below meth c H locs ls C RR Z S V)
theorem aw_idiv {x y : Int32} (hd : decode mm.2.1 pc = .ok (.idiv, 1)) (hne : ¬ y = 0) (kk : aw G mm tb R Qf cells slots h nx (pc + 1) L (.int (x / y) :: st)) : aw G mm tb R Qf cells slots h nx pc L (.int y :: .int x :: st) := by
  intro p l e s m args below meth c H locs ls C RR Z S V
  exact lv_idiv C.1 C.2.1 hd hne (kk p l e s m args below meth c H locs ls C RR Z S V)
theorem aw_irem {x y : Int32} (hd : decode mm.2.1 pc = .ok (.irem, 1)) (hne : ¬ y = 0) (kk : aw G mm tb R Qf cells slots h nx (pc + 1) L (.int (x - x / y * y) :: st)) : aw G mm tb R Qf cells slots h nx pc L (.int y :: .int x :: st) := by
  intro p l e s m args below meth c H locs ls C RR Z S V
  exact lv_irem C.1 C.2.1 hd hne (kk p l e s m args below meth c H locs ls C RR Z S V)
theorem aw_ladd {x y : Int64} (hd : decode mm.2.1 pc = .ok (.ladd, 1)) (kk : aw G mm tb R Qf cells slots h nx (pc + 1) L (.long (x + y) :: st)) : aw G mm tb R Qf cells slots h nx pc L (.long y :: .long x :: st) := by
  intro p l e s m args below meth c H locs ls C RR Z S V
  exact lv_ladd C.1 C.2.1 hd (kk p l e s m args below meth c H locs ls C RR Z S V)
theorem aw_lmul {x y : Int64} (hd : decode mm.2.1 pc = .ok (.lmul, 1)) (kk : aw G mm tb R Qf cells slots h nx (pc + 1) L (.long (x * y) :: st)) : aw G mm tb R Qf cells slots h nx pc L (.long y :: .long x :: st) := by
  intro p l e s m args below meth c H locs ls C RR Z S V
  exact lv_lmul C.1 C.2.1 hd (kk p l e s m args below meth c H locs ls C RR Z S V)
theorem aw_i2l {x : Int32} (hd : decode mm.2.1 pc = .ok (.i2l, 1)) (kk : aw G mm tb R Qf cells slots h nx (pc + 1) L (.long x.toInt64 :: st)) : aw G mm tb R Qf cells slots h nx pc L (.int x :: st) := by
  intro p l e s m args below meth c H locs ls C RR Z S V
  exact lv_i2l C.1 C.2.1 hd rfl (kk p l e s m args below meth c H locs ls C RR Z S V)
theorem aw_lcmp {x y : Int64} (hd : decode mm.2.1 pc = .ok (.lcmp, 1)) (kk : aw G mm tb R Qf cells slots h nx (pc + 1) L (.int (lg_cmp x y) :: st)) : aw G mm tb R Qf cells slots h nx pc L (.long y :: .long x :: st) := by
  intro p l e s m args below meth c H locs ls C RR Z S V
  exact W.lcmp C.1 C.2.1 hd (kk p l e s m args below meth c H locs ls C RR Z S V)
theorem aw_dmul {x y : UInt64} (hd : decode mm.2.1 pc = .ok (.dmul, 1)) (hne : vf_n64 (FP.dmul x y)) (kk : aw G mm tb R Qf cells slots h nx (pc + 1) L (.double (FP.dmul x y) :: st)) : aw G mm tb R Qf cells slots h nx pc L (.double y :: .double x :: st) := by
  intro p l e s m args below meth c H locs ls C RR Z S V
  exact lv_dmul C.1 C.2.1 hd hne (kk p l e s m args below meth c H locs ls C RR Z S V)
theorem aw_ddiv {x y : UInt64} (hd : decode mm.2.1 pc = .ok (.ddiv, 1)) (hne : vf_n64 (FP.ddiv x y)) (kk : aw G mm tb R Qf cells slots h nx (pc + 1) L (.double (FP.ddiv x y) :: st)) : aw G mm tb R Qf cells slots h nx pc L (.double y :: .double x :: st) := by
  intro p l e s m args below meth c H locs ls C RR Z S V
  exact lv_ddiv C.1 C.2.1 hd hne (kk p l e s m args below meth c H locs ls C RR Z S V)
theorem aw_dup {v : Value} (hd : decode mm.2.1 pc = .ok (.dup, 1)) (hc : v.category = 1) (kk : aw G mm tb R Qf cells slots h nx (pc + 1) L (v :: v :: st)) : aw G mm tb R Qf cells slots h nx pc L (v :: st) := by
  intro p l e s m args below meth c H locs ls C RR Z S V
  exact lv_dup C.1 C.2.1 hd hc (kk p l e s m args below meth c H locs ls C RR Z S V)
theorem aw_pop {v : Value} (hd : decode mm.2.1 pc = .ok (.pop, 1)) (hc : v.category = 1) (kk : aw G mm tb R Qf cells slots h nx (pc + 1) L st) : aw G mm tb R Qf cells slots h nx pc L (v :: st) := by
  intro p l e s m args below meth c H locs ls C RR Z S V
  exact lv_pop C.1 C.2.1 hd hc (kk p l e s m args below meth c H locs ls C RR Z S V)
theorem aw_dup2 {v w : Value} (hd : decode mm.2.1 pc = .ok (.dup2, 1)) (hc : v.category = 1) (hc2 : w.category = 1) (kk : aw G mm tb R Qf cells slots h nx (pc + 1) L (v :: w :: v :: w :: st)) : aw G mm tb R Qf cells slots h nx pc L (v :: w :: st) := by
  intro p l e s m args below meth c H locs ls C RR Z S V
  exact lv_dup2_11 C.1 C.2.1 hd hc hc2 (kk p l e s m args below meth c H locs ls C RR Z S V)
theorem aw_if_eq {x : Int32} {off : Int} {tgt : Nat} (hd : decode mm.2.1 pc = .ok (.ifCond .eq off, 3)) (ht : (pc : Int) + off = (tgt : Int)) (kt : x = 0 → aw G mm tb R Qf cells slots h nx tgt L st) (kf : ¬ x = 0 → aw G mm tb R Qf cells slots h nx (pc + 3) L st) : aw G mm tb R Qf cells slots h nx pc L (.int x :: st) := by
  intro p l e s m args below meth c H locs ls C RR Z S V
  exact lv_if_eq C.1 C.2.1 hd ht (fun z => kt z p l e s m args below meth c H locs ls C RR Z S V) (fun z => kf z p l e s m args below meth c H locs ls C RR Z S V)
theorem aw_icmp_eq {x y : Int32} {off : Int} {tgt : Nat} (hd : decode mm.2.1 pc = .ok (.if_icmp .eq off, 3)) (ht : (pc : Int) + off = (tgt : Int)) (kt : x = y → aw G mm tb R Qf cells slots h nx tgt L st) (kf : ¬ x = y → aw G mm tb R Qf cells slots h nx (pc + 3) L st) : aw G mm tb R Qf cells slots h nx pc L (.int y :: .int x :: st) := by
  intro p l e s m args below meth c H locs ls C RR Z S V
  exact lv_icmp_eq C.1 C.2.1 hd ht (fun z => kt z p l e s m args below meth c H locs ls C RR Z S V) (fun z => kf z p l e s m args below meth c H locs ls C RR Z S V)
theorem aw_if_ne {x : Int32} {off : Int} {tgt : Nat} (hd : decode mm.2.1 pc = .ok (.ifCond .ne off, 3)) (ht : (pc : Int) + off = (tgt : Int)) (kt : ¬ x = 0 → aw G mm tb R Qf cells slots h nx tgt L st) (kf : x = 0 → aw G mm tb R Qf cells slots h nx (pc + 3) L st) : aw G mm tb R Qf cells slots h nx pc L (.int x :: st) := by
  intro p l e s m args below meth c H locs ls C RR Z S V
  exact lv_if_ne C.1 C.2.1 hd ht (fun z => kt z p l e s m args below meth c H locs ls C RR Z S V) (fun z => kf z p l e s m args below meth c H locs ls C RR Z S V)
theorem aw_icmp_ne {x y : Int32} {off : Int} {tgt : Nat} (hd : decode mm.2.1 pc = .ok (.if_icmp .ne off, 3)) (ht : (pc : Int) + off = (tgt : Int)) (kt : ¬ x = y → aw G mm tb R Qf cells slots h nx tgt L st) (kf : x = y → aw G mm tb R Qf cells slots h nx (pc + 3) L st) : aw G mm tb R Qf cells slots h nx pc L (.int y :: .int x :: st) := by
  intro p l e s m args below meth c H locs ls C RR Z S V
  exact lv_icmp_ne C.1 C.2.1 hd ht (fun z => kt z p l e s m args below meth c H locs ls C RR Z S V) (fun z => kf z p l e s m args below meth c H locs ls C RR Z S V)
theorem aw_if_lt {x : Int32} {off : Int} {tgt : Nat} (hd : decode mm.2.1 pc = .ok (.ifCond .lt off, 3)) (ht : (pc : Int) + off = (tgt : Int)) (kt : x < 0 → aw G mm tb R Qf cells slots h nx tgt L st) (kf : ¬ x < 0 → aw G mm tb R Qf cells slots h nx (pc + 3) L st) : aw G mm tb R Qf cells slots h nx pc L (.int x :: st) := by
  intro p l e s m args below meth c H locs ls C RR Z S V
  exact lv_if_lt C.1 C.2.1 hd ht (fun z => kt z p l e s m args below meth c H locs ls C RR Z S V) (fun z => kf z p l e s m args below meth c H locs ls C RR Z S V)
theorem aw_icmp_lt {x y : Int32} {off : Int} {tgt : Nat} (hd : decode mm.2.1 pc = .ok (.if_icmp .lt off, 3)) (ht : (pc : Int) + off = (tgt : Int)) (kt : x < y → aw G mm tb R Qf cells slots h nx tgt L st) (kf : ¬ x < y → aw G mm tb R Qf cells slots h nx (pc + 3) L st) : aw G mm tb R Qf cells slots h nx pc L (.int y :: .int x :: st) := by
  intro p l e s m args below meth c H locs ls C RR Z S V
  exact lv_icmp_lt C.1 C.2.1 hd ht (fun z => kt z p l e s m args below meth c H locs ls C RR Z S V) (fun z => kf z p l e s m args below meth c H locs ls C RR Z S V)
theorem aw_if_ge {x : Int32} {off : Int} {tgt : Nat} (hd : decode mm.2.1 pc = .ok (.ifCond .ge off, 3)) (ht : (pc : Int) + off = (tgt : Int)) (kt : 0 ≤ x → aw G mm tb R Qf cells slots h nx tgt L st) (kf : ¬ 0 ≤ x → aw G mm tb R Qf cells slots h nx (pc + 3) L st) : aw G mm tb R Qf cells slots h nx pc L (.int x :: st) := by
  intro p l e s m args below meth c H locs ls C RR Z S V
  exact lv_if_ge C.1 C.2.1 hd ht (fun z => kt z p l e s m args below meth c H locs ls C RR Z S V) (fun z => kf z p l e s m args below meth c H locs ls C RR Z S V)
theorem aw_icmp_ge {x y : Int32} {off : Int} {tgt : Nat} (hd : decode mm.2.1 pc = .ok (.if_icmp .ge off, 3)) (ht : (pc : Int) + off = (tgt : Int)) (kt : y ≤ x → aw G mm tb R Qf cells slots h nx tgt L st) (kf : ¬ y ≤ x → aw G mm tb R Qf cells slots h nx (pc + 3) L st) : aw G mm tb R Qf cells slots h nx pc L (.int y :: .int x :: st) := by
  intro p l e s m args below meth c H locs ls C RR Z S V
  exact lv_icmp_ge C.1 C.2.1 hd ht (fun z => kt z p l e s m args below meth c H locs ls C RR Z S V) (fun z => kf z p l e s m args below meth c H locs ls C RR Z S V)
theorem aw_if_gt {x : Int32} {off : Int} {tgt : Nat} (hd : decode mm.2.1 pc = .ok (.ifCond .gt off, 3)) (ht : (pc : Int) + off = (tgt : Int)) (kt : 0 < x → aw G mm tb R Qf cells slots h nx tgt L st) (kf : ¬ 0 < x → aw G mm tb R Qf cells slots h nx (pc + 3) L st) : aw G mm tb R Qf cells slots h nx pc L (.int x :: st) := by
  intro p l e s m args below meth c H locs ls C RR Z S V
  exact lv_if_gt C.1 C.2.1 hd ht (fun z => kt z p l e s m args below meth c H locs ls C RR Z S V) (fun z => kf z p l e s m args below meth c H locs ls C RR Z S V)
theorem aw_icmp_gt {x y : Int32} {off : Int} {tgt : Nat} (hd : decode mm.2.1 pc = .ok (.if_icmp .gt off, 3)) (ht : (pc : Int) + off = (tgt : Int)) (kt : y < x → aw G mm tb R Qf cells slots h nx tgt L st) (kf : ¬ y < x → aw G mm tb R Qf cells slots h nx (pc + 3) L st) : aw G mm tb R Qf cells slots h nx pc L (.int y :: .int x :: st) := by
  intro p l e s m args below meth c H locs ls C RR Z S V
  exact lv_icmp_gt C.1 C.2.1 hd ht (fun z => kt z p l e s m args below meth c H locs ls C RR Z S V) (fun z => kf z p l e s m args below meth c H locs ls C RR Z S V)
theorem aw_if_le {x : Int32} {off : Int} {tgt : Nat} (hd : decode mm.2.1 pc = .ok (.ifCond .le off, 3)) (ht : (pc : Int) + off = (tgt : Int)) (kt : x ≤ 0 → aw G mm tb R Qf cells slots h nx tgt L st) (kf : ¬ x ≤ 0 → aw G mm tb R Qf cells slots h nx (pc + 3) L st) : aw G mm tb R Qf cells slots h nx pc L (.int x :: st) := by
  intro p l e s m args below meth c H locs ls C RR Z S V
  exact lv_if_le C.1 C.2.1 hd ht (fun z => kt z p l e s m args below meth c H locs ls C RR Z S V) (fun z => kf z p l e s m args below meth c H locs ls C RR Z S V)
theorem aw_icmp_le {x y : Int32} {off : Int} {tgt : Nat} (hd : decode mm.2.1 pc = .ok (.if_icmp .le off, 3)) (ht : (pc : Int) + off = (tgt : Int)) (kt : x ≤ y → aw G mm tb R Qf cells slots h nx tgt L st) (kf : ¬ x ≤ y → aw G mm tb R Qf cells slots h nx (pc + 3) L st) : aw G mm tb R Qf cells slots h nx pc L (.int y :: .int x :: st) := by
  intro p l e s m args below meth c H locs ls C RR Z S V
  exact lv_icmp_le C.1 C.2.1 hd ht (fun z => kt z p l e s m args below meth c H locs ls C RR Z S V) (fun z => kf z p l e s m args below meth c H locs ls C RR Z S V)
theorem aw_acmp_eq {rx ry : Option Nat} {off : Int} {tgt : Nat} (hd : decode mm.2.1 pc = .ok (.if_acmp .eq off, 3)) (ht : (pc : Int) + off = (tgt : Int)) (kt : rx = ry → aw G mm tb R Qf cells slots h nx tgt L st) (kf : ¬ rx = ry → aw G mm tb R Qf cells slots h nx (pc + 3) L st) : aw G mm tb R Qf cells slots h nx pc L (va_rf ry :: va_rf rx :: st) := by
  intro p l e s m args below meth c H locs ls C RR Z S V
  exact lv_acmp_eq C.1 C.2.1 hd ht (fun z => kt z p l e s m args below meth c H locs ls C RR Z S V) (fun z => kf z p l e s m args below meth c H locs ls C RR Z S V)
theorem aw_acmp_ne {rx ry : Option Nat} {off : Int} {tgt : Nat} (hd : decode mm.2.1 pc = .ok (.if_acmp .ne off, 3)) (ht : (pc : Int) + off = (tgt : Int)) (kt : ¬ rx = ry → aw G mm tb R Qf cells slots h nx tgt L st) (kf : rx = ry → aw G mm tb R Qf cells slots h nx (pc + 3) L st) : aw G mm tb R Qf cells slots h nx pc L (va_rf ry :: va_rf rx :: st) := by
  intro p l e s m args below meth c H locs ls C RR Z S V
  exact lv_acmp_ne C.1 C.2.1 hd ht (fun z => kt z p l e s m args below meth c H locs ls C RR Z S V) (fun z => kf z p l e s m args below meth c H locs ls C RR Z S V)
theorem aw_goto {off : Int} {tgt : Nat} (hd : decode mm.2.1 pc = .ok (.goto off, 3)) (ht : (pc : Int) + off = (tgt : Int)) (kk : aw G mm tb R Qf cells slots h nx tgt L st) : aw G mm tb R Qf cells slots h nx pc L st := by
  intro p l e s m args below meth c H locs ls C RR Z S V
  exact lv_goto C.1 C.2.1 hd ht (kk p l e s m args below meth c H locs ls C RR Z S V)
theorem aw_ifnull {x : Nat} {off : Int} (hd : decode mm.2.1 pc = .ok (.ifnull off, 3)) (kk : aw G mm tb R Qf cells slots h nx (pc + 3) L st) : aw G mm tb R Qf cells slots h nx pc L (.ref x :: st) := by
  intro p l e s m args below meth c H locs ls C RR Z S V
  exact lv_ifnull C.1 C.2.1 hd (kk p l e s m args below meth c H locs ls C RR Z S V)
theorem aw_ifnullN {off : Int} {tgt : Nat} (hd : decode mm.2.1 pc = .ok (.ifnull off, 3)) (ht : (pc : Int) + off = (tgt : Int)) (kk : aw G mm tb R Qf cells slots h nx tgt L st) : aw G mm tb R Qf cells slots h nx pc L (.null :: st) := by
  intro p l e s m args below meth c H locs ls C RR Z S V
  exact lv_ifnullN C.1 C.2.1 hd ht (kk p l e s m args below meth c H locs ls C RR Z S V)
theorem aw_ifnonnull {x : Nat} {off : Int} {tgt : Nat} (hd : decode mm.2.1 pc = .ok (.ifnonnull off, 3)) (ht : (pc : Int) + off = (tgt : Int)) (kk : aw G mm tb R Qf cells slots h nx tgt L st) : aw G mm tb R Qf cells slots h nx pc L (.ref x :: st) := by
  intro p l e s m args below meth c H locs ls C RR Z S V
  exact lv_ifnonnull C.1 C.2.1 hd ht (kk p l e s m args below meth c H locs ls C RR Z S V)
theorem aw_ifnonnullN {off : Int} (hd : decode mm.2.1 pc = .ok (.ifnonnull off, 3)) (kk : aw G mm tb R Qf cells slots h nx (pc + 3) L st) : aw G mm tb R Qf cells slots h nx pc L (.null :: st) := by
  intro p l e s m args below meth c H locs ls C RR Z S V
  exact lv_ifnonnullN C.1 C.2.1 hd (kk p l e s m args below meth c H locs ls C RR Z S V)
theorem aw_tableOut {dflt lo hi : Int} {offs : Array Int} {len : Nat} {x : Int32} {tgt : Nat} (hd : decode mm.2.1 pc = .ok (.tableswitch dflt lo hi offs, len)) (hh : x.toInt < lo ∨ hi < x.toInt) (ht : (pc : Int) + dflt = (tgt : Int)) (kk : aw G mm tb R Qf cells slots h nx tgt L st) : aw G mm tb R Qf cells slots h nx pc L (.int x :: st) := by
  intro p l e s m args below meth c H locs ls C RR Z S V
  exact lv_tableOut C.1 C.2.1 hd hh ht (kk p l e s m args below meth c H locs ls C RR Z S V)
theorem aw_tableIn {dflt lo hi : Int} {offs : Array Int} {len : Nat} {x : Int32} {off : Int} {tgt : Nat} (hd : decode mm.2.1 pc = .ok (.tableswitch dflt lo hi offs, len)) (h1 : ¬ x.toInt < lo) (h2 : ¬ hi < x.toInt) (ho : offs[(x.toInt - lo).toNat]? = some off) (ht : (pc : Int) + off = (tgt : Int)) (kk : aw G mm tb R Qf cells slots h nx tgt L st) : aw G mm tb R Qf cells slots h nx pc L (.int x :: st) := by
  intro p l e s m args below meth c H locs ls C RR Z S V
  exact lv_tableIn C.1 C.2.1 hd h1 h2 ho ht (kk p l e s m args below meth c H locs ls C RR Z S V)
theorem aw_to {L' : aL} {st' : List Value} {h' : aH} (kk : aw G mm tb R Qf cells slots h' nx pc L' st') (e1 : L = L') (e2 : st = st') (e3 : h = h') : aw G mm tb R Qf cells slots h nx pc L st := by
  subst e1 e2 e3; exact kk
theorem aw_top {x y : Int32} (hx : x = y) (kk : aw G mm tb R Qf cells slots h nx pc L (.int y :: st)) : aw G mm tb R Qf cells slots h nx pc L (.int x :: st) := by
  subst hx; exact kk
theorem aw_topl {x y : Int64} (hx : x = y) (kk : aw G mm tb R Qf cells slots h nx pc L (.long y :: st)) : aw G mm tb R Qf cells slots h nx pc L (.long x :: st) := by
  subst hx; exact kk
theorem aw_sub {L' : aL} (ks : List Nat) (hl : lv_pick L ks = L') (kk : aw G mm tb R Qf cells slots h nx pc L' st) : aw G mm tb R Qf cells slots h nx pc L st := by
  intro p l e s m args below meth c H locs ls C RR Z S V
  exact kk p l e s m args below meth c H locs ls C RR Z S (lv_sub V ks hl)
theorem aw_forget {h' : aH} (hf : ∀ a e, h' a = some e → h a = some e) (kk : aw G mm tb R Qf cells slots h' nx pc L st) : aw G mm tb R Qf cells slots h nx pc L st := by
  intro p l e s m args below meth c H locs ls C RR Z S V
  exact kk p l e s m args below meth c H locs ls C ⟨fun a e q => RR.1 a e (hf a e q), fun a e q => RR.2 a e (hf a e q)⟩ Z S V
theorem aw_widen {cells' slots' : Nat} (h1 : cells ≤ cells') (h2 : slots ≤ slots') (kk : aw G mm tb R Qf cells' slots' h nx pc L st) : aw G mm tb R Qf cells slots h nx pc L st := by
  intro p l e s m args below meth c H locs ls C RR Z S V
  exact W.widen h1 h2 (kk p l e s m args below meth c H locs ls C RR Z S V)
theorem aw_fresh {P : Prop} (k : (∀ a e, h a = some e → a < nx) → P) (hp : P → aw G mm tb R Qf cells slots h nx pc L st) : (∀ a e, h a = some e → a < nx) → aw G mm tb R Qf cells slots h nx pc L st := fun z => hp (k z)
/-- what lies in the heap lies below its end, and is ours -/
theorem aw_bd (kk : (∀ a e, h a = some e → a < nx ∧ G.2.2.1 ≤ a) → G.2.2.1 ≤ nx → aw G mm tb R Qf cells slots h nx pc L st) : aw G mm tb R Qf cells slots h nx pc L st := by
  intro p l e s m args below meth c H locs ls C RR Z S V
  exact kk (fun a e q => ⟨by rw [← Z]; exact (RR.1 a e q).lt, RR.2 a e q⟩) (by rw [← Z]; exact Nat.le_trans C.2.2.2.2.2.2.2.2.1.2.2.2.1 S.1) p l e s m args below meth c H locs ls C RR Z S V
end AROWS
section AENDS
variable {G : aG} {mm : aM} {tb : List (Nat × Nat × Nat × Nat)} {R : Room} {po : aPost} {cells slots mc ms : Nat} {h : aH} {nx pc : Nat} {L : aL} {st : List Value}
theorem aEnd_q {G : aG} {po : aPost} {h : aH} {s : State} {H : Heap} {locs : List Loc} {nx : Nat} {v : Option Value} {args : Array Value} (RR : aRep G h H) (Z : H.size = nx) (S : va_S (aBs G) s.heap H locs) (hp : po (.inl v) h nx) : ∀ t : State, t.heap = H → s.WarmedH t.vm → aQc G po args s (.returned v) t := fun t ht _ => ⟨v, h, rfl, by rw [ht]; exact RR, by rw [ht, Z]; exact hp, S.F ht⟩
theorem aw_ireturn {x : Int32} (hd : decode mm.2.1 pc = .ok (.ireturn, 1)) (hr : mm.2.2.2 = some .int) (hp : po (.inl (some (.int x))) h nx) (h1 : cells ≤ mc) (h2 : slots ≤ ms) : aw G mm tb R (aEnd G po mc ms) cells slots h nx pc L [.int x] := by
  intro p l e s m args below meth c H locs ls C RR Z S V
  refine W.widen h1 h2 (vx_ret ?_)
  exact W.iret C.1 C.2.1 (C.2.2.2.2.2.1.trans hr) (aEnd_q RR Z S hp) S.2.2 hd C.2.2.2.2.2.2.1
theorem aw_zreturn {x : Int32} (hd : decode mm.2.1 pc = .ok (.ireturn, 1)) (hr : mm.2.2.2 = some .boolean) (hz : narrow .boolean (.int x) = .int x) (hp : po (.inl (some (.int x))) h nx) (h1 : cells ≤ mc) (h2 : slots ≤ ms) : aw G mm tb R (aEnd G po mc ms) cells slots h nx pc L [.int x] := by
  intro p l e s m args below meth c H locs ls C RR Z S V
  refine W.widen h1 h2 (vx_ret ?_)
  exact W.zret C.1 C.2.1 (C.2.2.2.2.2.1.trans hr) hz (aEnd_q RR Z S hp) S.2.2 hd C.2.2.2.2.2.2.1
theorem aw_lreturn {x : Int64} (hd : decode mm.2.1 pc = .ok (.lreturn, 1)) (hr : mm.2.2.2 = some .long) (hp : po (.inl (some (.long x))) h nx) (h1 : cells ≤ mc) (h2 : slots ≤ ms) : aw G mm tb R (aEnd G po mc ms) cells slots h nx pc L [.long x] := by
  intro p l e s m args below meth c H locs ls C RR Z S V
  refine W.widen h1 h2 (vx_ret ?_)
  exact W.lret C.1 C.2.1 (C.2.2.2.2.2.1.trans hr) (aEnd_q RR Z S hp) S.2.2 hd C.2.2.2.2.2.2.1
theorem aw_dreturn {x : UInt64} (hd : decode mm.2.1 pc = .ok (.dreturn, 1)) (hr : mm.2.2.2 = some .double) (hp : po (.inl (some (.double x))) h nx) (h1 : cells ≤ mc) (h2 : slots ≤ ms) : aw G mm tb R (aEnd G po mc ms) cells slots h nx pc L [.double x] := by
  intro p l e s m args below meth c H locs ls C RR Z S V
  refine W.widen h1 h2 (vx_ret ?_)
  exact W.dret C.1 C.2.1 (C.2.2.2.2.2.1.trans hr) (aEnd_q RR Z S hp) S.2.2 hd C.2.2.2.2.2.2.1
theorem aw_areturn {v : Value} (hd : decode mm.2.1 pc = .ok (.areturn, 1)) {rt : FieldType} (hr : mm.2.2.2 = some rt) (hrt : (∃ n, rt = .object n) ∨ ∃ t, rt = .array t) (hv : v = .null ∨ ∃ a, v = .ref a) (hp : po (.inl (some v)) h nx) (h1 : cells ≤ mc) (h2 : slots ≤ ms) : aw G mm tb R (aEnd G po mc ms) cells slots h nx pc L [v] := by
  intro p l e s m args below meth c H locs ls C RR Z S V
  refine W.widen h1 h2 (vx_ret ?_)
  exact W.aret C.1 C.2.1 (C.2.2.2.2.2.1.trans hr) hrt hv (aEnd_q RR Z S hp) S.2.2 hd C.2.2.2.2.2.2.1
theorem aw_return  (hd : decode mm.2.1 pc = .ok (.return_, 1)) (hr : mm.2.2.2 = none) (hp : po (.inl none) h nx) (h1 : cells ≤ mc) (h2 : slots ≤ ms) : aw G mm tb R (aEnd G po mc ms) cells slots h nx pc L [] := by
  intro p l e s m args below meth c H locs ls C RR Z S V
  refine W.widen h1 h2 (vx_ret ?_)
  exact W.vret C.1 C.2.1 (C.2.2.2.2.2.1.trans hr) (aEnd_q RR Z S hp) S.2.2 hd C.2.2.2.2.2.2.1
/-- an exception that this method doesn't catch -/
theorem awx_out {E : String} (ho : ∀ x ∈ tableOf tb, covers x pc = false) (hp : po (.inr E) h nx) (h1 : cells ≤ mc) (h2 : slots ≤ ms) : awx G mm tb R (aEnd G po mc ms) cells slots h nx pc L E := by
  intro p l e s m args below meth c H locs ls rest q ce C RR Z S V hce hcv hcl
  refine vx_out (by rw [C.2.2.2.2.2.2.2.1]; exact ho) C.2.2.2.2.2.2.1 hce hcv hcl (fun t ht _ => ⟨h, by rw [ht]; exact RR, by rw [ht, Z]; exact hp, S.F ht⟩) S.2.2 h1 h2
end AENDS
end
section
/-! ===== ROWS of the heap ===== -/
theorem u_ws_good {C : String} {T : u_T} {N : Nat} : ∀ w ∈ u_ws C T N, goodWord w = true := by
  intro w hw
  obtain ⟨k, -, rfl⟩ := List.mem_map.mp hw
  unfold u_lay
  by_cases q : (T k).2.2.2 = true
  · rw [if_pos q]; rfl
  · rw [if_neg q]; rfl
theorem aWd_u {C : String} {T : u_T} {N : Nat} (h : ∀ w ∈ u_ws C T N, w ∈ lw_tbl) : ∀ w ∈ u_ws C T N, w ∈ aWd := fun w hw => aWd_of (h w hw) (u_ws_good w hw)
/-- what is known of each class whose objects lie in our heap -/
def aCk (q : vw_C) : Prop := (∀ w ∈ u_ws q.1 q.2.1 q.2.2, w ∈ aWd) ∧ (∀ a, a < q.2.2 → ∀ b, b < q.2.2 → a ≠ b → (q.2.1 a).2.1 ≠ (q.2.1 b).2.1) ∧ ∃ ty0 : Nat → FieldType, ∀ k, k < q.2.2 → parseFieldDescriptor (q.2.1 k).2.2.1 = some (ty0 k)
theorem aCk_of : ∀ (ci : Nat) (q : vw_C), vwCl[ci]? = some q → aCk q := by
  intro ci q hq
  match ci, hq with
  | 0, hq => cases hq; exact ⟨aWd_u inJI, nmJx35411, _, tyJx35411_ok⟩
  | 1, hq => cases hq; exact ⟨aWd_u inJL, nmJx4a65c, _, tyJx4a65c_ok⟩
  | 2, hq => cases hq; exact ⟨aWd_u inX1, nmX1, _, tyX1_ok⟩
  | 3, hq => cases hq; exact ⟨aWd_u inX3, nmX3, _, tyX3_ok⟩
  | 4, hq => cases hq; exact ⟨aWd_u inX4, nmX4, _, tyX4_ok⟩
  | 5, hq => cases hq; exact ⟨aWd_u inX6, nmX6, _, tyX6_ok⟩
  | 6, hq => cases hq; exact ⟨aWd_u inX7, nmX7, _, tyX7_ok⟩
  | 7, hq => cases hq; exact ⟨aWd_u inX8, nmX8, _, tyX8_ok⟩
  | 8, hq => cases hq; exact ⟨aWd_u inX9, nmX9, _, tyX9_ok⟩
  | k + 9, hq => simp [vwCl] at hq
theorem aRep_set {G : aG} {h : aH} {H H1 : Heap} {a : Nat} {e : va_E} (R : aRep G h H) (he : va_at G.1 vwCl (a, amap G.2.1 e) H1) (hb : G.2.2.1 ≤ a) (oq : ∀ q : Nat, q ≠ a → H1[q]? = H[q]?) : aRep G (hw h a e) H1 := by
  refine ⟨fun b f hf => ?_, fun b f hf => ?_⟩
  · by_cases q : b = a
    · subst q
      rw [hw_s] at hf
      cases hf
      exact he
    · rw [hw_n q] at hf
      exact (R.1 b f hf).kept (oq b q)
  · by_cases q : b = a
    · subst q; exact hb
    · rw [hw_n q] at hf
      exact R.2 b f hf
theorem aRep_push {G : aG} {h : aH} {H H1 : Heap} {e : va_E} (R : aRep G h H) (he : va_at G.1 vwCl (H.size, amap G.2.1 e) H1) (hb : G.2.2.1 ≤ H.size) (oq : ∀ q : Nat, q < H.size → H1[q]? = H[q]?) : aRep G (hw h H.size e) H1 := by
  refine ⟨fun b f hf => ?_, fun b f hf => ?_⟩
  · by_cases q : b = H.size
    · subst q
      rw [hw_s] at hf
      cases hf
      exact he
    · rw [hw_n q] at hf
      have hlt := (R.1 b f hf).lt
      exact (R.1 b f hf).kept (oq b hlt)
  · by_cases q : b = H.size
    · subst q; exact hb
    · rw [hw_n q] at hf
      exact R.2 b f hf
theorem aRep_keep {G : aG} {h : aH} {H H1 : Heap} (R : aRep G h H) (oq : ∀ q : Nat, q < H.size → H1[q]? = H[q]?) : aRep G h H1 :=
  ⟨fun b f hf => (R.1 b f hf).kept (oq b (R.1 b f hf).lt), R.2⟩
theorem va_S.push {A : Nat → Prop} {H0 H H1 : Heap} {locs : List Loc} (S : va_S A H0 H locs) (z : H.size ≤ H1.size) (oq : ∀ q : Nat, q < H.size → H1[q]? = H[q]?) : va_S A H0 H1 locs := ⟨Nat.le_trans S.1 z, fun x h1 h2 => (oq x (Nat.lt_of_lt_of_le h1 S.1)).trans (S.2.1 x h1 h2), S.2.2⟩
theorem aRep_P {G : aG} {h : aH} {H : Heap} {a : Nat} {e : va_E} (R : aRep G h H) (hf : h a = some e) : va_P G.1 vwCl [(a, amap G.2.1 e)] H := by
  intro k q hk
  have hz : k < 1 := (List.getElem?_eq_some_iff.mp hk).1
  have h0 : k = 0 := by omega
  subst h0
  cases hk
  exact R.1 a e hf
section AHEAP
variable {G : aG} {mm : aM} {tb : List (Nat × Nat × Nat × Nat)} {R : Room} {Qf : aQf} {cells slots : Nat} {h : aH} {nx pc : Nat} {L : aL} {st : List Value}
theorem aw_get {q : vw_C} {ci index a : Nat} {fs : List Value} {v : Value} {dc nm ds : String} {fin : Bool} (k : Nat) (hf : h a = some (.inr (ci, fs))) (hc : vwCl[ci]? = some q) (hT : q.2.1 k = (dc, nm, ds, fin)) (hk : k < q.2.2) (hl : Cond.fieldLink mm.1.cls index dc nm ds ∈ lw_tbl) (hv : fs[k]? = some v) (hd : decode mm.2.1 pc = .ok (.getfield index, 3)) (kk : aw G mm tb R Qf cells slots h nx (pc + 3) L (v :: st)) : aw G mm tb R Qf cells slots h nx pc L (.ref a :: st) := by
  intro p l e s m args below meth c H locs ls C RR Z S V
  have e := aCk_of ci q hc
  exact va_get (own := mm.1.cls) (ref := dc) (C := q.1) (T := q.2.1) (N := q.2.2) (v := v) C.1 C.2.1 C.2.2.2.2.1 e.1 C.2.2.2.1 C.2.2.2.2.2.2.2.2.1.1 (aRep_P RR hf) 0 rfl hc k hk (by rw [hT]; exact C.2.2.2.2.1 _ (aWd_of hl rfl)) (fun x hx => by rw [hT] at hx ⊢; exact hx) hv hd (kk p l _ s m args below meth c H locs ls C RR Z S V)
theorem aw_getM {q : vw_C} {ci index a : Nat} {fs : List Value} {v : Value} {dc nm ds : String} {fin : Bool} (k : Nat) (hf : h a = some (.inr (ci, fs))) (hc : vwCl[ci]? = some q) (hT : q.2.1 k = (dc, nm, ds, fin)) (hk : k < q.2.2) {ref : String} (hsf : Cond.sameField ref dc nm ds ∈ lw_tbl) (hl : Cond.fieldLink mm.1.cls index ref nm ds ∈ lw_tbl) (hv : fs[k]? = some v) (hd : decode mm.2.1 pc = .ok (.getfield index, 3)) (kk : aw G mm tb R Qf cells slots h nx (pc + 3) L (v :: st)) : aw G mm tb R Qf cells slots h nx pc L (.ref a :: st) := by
  intro p l e s m args below meth c H locs ls C RR Z S V
  have e := aCk_of ci q hc
  exact va_get (own := mm.1.cls) (ref := ref) (C := q.1) (T := q.2.1) (N := q.2.2) (v := v) C.1 C.2.1 C.2.2.2.2.1 e.1 C.2.2.2.1 C.2.2.2.2.2.2.2.2.1.1 (aRep_P RR hf) 0 rfl hc k hk (by rw [hT]; exact C.2.2.2.2.1 _ (aWd_of hl rfl)) (fun x hx => by rw [hT] at hx ⊢; exact u_same (C.2.2.2.2.1 _ (aWd_of hsf rfl)) x hx) hv hd (kk p l _ s m args below meth c H locs ls C RR Z S V)
theorem aw_getN {q : vw_C} {ci index a : Nat} {fs : List Value} {v : Value} {dc nm ds : String} {fin : Bool} (k : Nat) (hf : h a = some (.inr (ci, fs))) (hc : vwCl[ci]? = some q) (hT : q.2.1 k = (dc, nm, ds, fin)) (hk : k < q.2.2) {host : String} (hl : Cond.fieldLinkNest mm.1.cls index dc nm ds host ∈ lw_tbl) (hv : fs[k]? = some v) (hd : decode mm.2.1 pc = .ok (.getfield index, 3)) (kk : aw G mm tb R Qf cells slots h nx (pc + 3) L (v :: st)) : aw G mm tb R Qf cells slots h nx pc L (.ref a :: st) := by
  intro p l e s m args below meth c H locs ls C RR Z S V
  have e := aCk_of ci q hc
  exact va_getN (own := mm.1.cls) (ref := dc) (host := host) (C := q.1) (T := q.2.1) (N := q.2.2) (v := v) C.1 C.2.1 C.2.2.2.2.1 e.1 C.2.2.2.1 C.2.2.2.2.2.2.2.2.1.1 (aRep_P RR hf) 0 rfl hc k hk (by rw [hT]; exact va_Nw.use rfl (C.2.2.2.2.2.2.2.2.1.2.1 _ (aWn_of hl rfl))) (fun x hx => by rw [hT] at hx ⊢; exact hx) hv hd (kk p l _ s m args below meth c H locs ls C RR Z S V)
theorem aw_put {q : vw_C} {ci index a : Nat} {fs : List Value} {v : Value} {dc nm ds : String} {fin : Bool} (k : Nat) (hf : h a = some (.inr (ci, fs))) (hc : vwCl[ci]? = some q) (hT : q.2.1 k = (dc, nm, ds, fin)) (hk : k < q.2.2) {ty : FieldType} {fs' : List Value} (hdp : parseFieldDescriptor ds = some ty) (hn : narrow ty v = v) (hfit : fits ty v = true) (hfs : fs.set k v = fs') (hl9 : k < fs.length) (hfin : fin = false) (hl : Cond.fieldLink mm.1.cls index dc nm ds ∈ lw_tbl) (hd : decode mm.2.1 pc = .ok (.putfield index, 3)) (kk : aw G mm tb R Qf cells slots (hw h a (.inr (ci, fs'))) nx (pc + 3) L st) : aw G mm tb R Qf cells slots h nx pc L (v :: .ref a :: st) := by
  intro p l e s m args below meth c H locs ls C RR Z S V
  have ec := aCk_of ci q hc
  have C0 := id C
  obtain ⟨hx, hb, hml, hown, hts, hr, hlk, htb, ⟨hK, hKr⟩, hl2, hnm0⟩ := C0
  obtain ⟨hin, hnm, ty0, hty⟩ := ec
  have hap := va_apart (C := q.1) (T := q.2.1) (N := q.2.2) (own := mm.1.cls) hts hin ty0 hty hnm hK hc
  obtain ⟨r, g1, cell, q1, q2, q3, q4⟩ := RR.1 a _ hf
  have er : r = q := Option.some.inj (g1.symm.trans hc)
  subst er
  obtain ⟨hS, hfc, kC, hkC, hkind⟩ := hK.1 ci _ hc
  obtain ⟨cf, kf, fi, f, hi, hsl⟩ := hS k hk
  have hlay := hts _ (hin _ (u_in_lay hk))
  unfold u_lay at hlay
  rw [if_neg (by rw [hT, hfin]; exact Bool.false_ne_true)] at hlay
  have hst := (u_facts hfc hkC (u_lays hts hin hk) hi).1
  have h6 := u_store hfc hkC hkind hlay hi (by rw [hT]; exact hdp) hn hfit
  rw [hT] at hi
  refine W.putK hx hb (f := f) ⟨hown, hts _ (aWd_of hl rfl), ⟨_, _, _, hi⟩, hst⟩ (by rw [q2]; exact h6) q1 q3 (by rw [hsl]; exact k2_hasslot (q4 k hk)) rfl rfl hd fun H' e1 e2 e3 => ?_
  rw [hsl] at e1 ⊢
  subst hfs
  refine kk p l e s m args below meth c H' _ ls C (aRep_set RR ?_ (RR.2 a _ hf) e3) (e2.trans Z) (S.put e2 e3 (RR.2 a _ hf)) V
  exact ⟨_, hc, t_OB.to (V := updV (vp_V fs) k v) ⟨_, e1, q2, q3, t_set q4 hap hk v⟩ (fun j _ => vp_updV_set hl9 v j)⟩
theorem aw_putN {q : vw_C} {ci index a : Nat} {fs : List Value} {v : Value} {dc nm ds : String} {fin : Bool} (k : Nat) (hf : h a = some (.inr (ci, fs))) (hc : vwCl[ci]? = some q) (hT : q.2.1 k = (dc, nm, ds, fin)) (hk : k < q.2.2) {ty : FieldType} {fs' : List Value} (hdp : parseFieldDescriptor ds = some ty) (hn : narrow ty v = v) (hfit : fits ty v = true) (hfs : fs.set k v = fs') (hl9 : k < fs.length) {host : String} (hfin : fin = false) (hl : Cond.fieldLinkNest mm.1.cls index dc nm ds host ∈ lw_tbl) (hd : decode mm.2.1 pc = .ok (.putfield index, 3)) (kk : aw G mm tb R Qf cells slots (hw h a (.inr (ci, fs'))) nx (pc + 3) L st) : aw G mm tb R Qf cells slots h nx pc L (v :: .ref a :: st) := by
  intro p l e s m args below meth c H locs ls C RR Z S V
  have ec := aCk_of ci q hc
  have C0 := id C
  obtain ⟨hx, hb, hml, hown, hts, hr, hlk, htb, ⟨hK, hKr⟩, hl2, hnm0⟩ := C0
  obtain ⟨hin, hnm, ty0, hty⟩ := ec
  have hap := va_apart (C := q.1) (T := q.2.1) (N := q.2.2) (own := mm.1.cls) hts hin ty0 hty hnm hK hc
  obtain ⟨r, g1, cell, q1, q2, q3, q4⟩ := RR.1 a _ hf
  have er : r = q := Option.some.inj (g1.symm.trans hc)
  subst er
  obtain ⟨hS, hfc, kC, hkC, hkind⟩ := hK.1 ci _ hc
  obtain ⟨cf, kf, fi, f, hi, hsl⟩ := hS k hk
  have hlay := hts _ (hin _ (u_in_lay hk))
  unfold u_lay at hlay
  rw [if_neg (by rw [hT, hfin]; exact Bool.false_ne_true)] at hlay
  have hst := (u_facts hfc hkC (u_lays hts hin hk) hi).1
  have h6 := u_store hfc hkC hkind hlay hi (by rw [hT]; exact hdp) hn hfit
  rw [hT] at hi
  refine va_WputK hx hb (f := f) hown (va_Nw.use rfl (hKr.1 _ (aWn_of hl rfl))) hi hst (by rw [q2]; exact h6) q1 q3 (by rw [hsl]; exact k2_hasslot (q4 k hk)) rfl rfl hd fun H' e1 e2 e3 => ?_
  rw [hsl] at e1 ⊢
  subst hfs
  refine kk p l e s m args below meth c H' _ ls C (aRep_set RR ?_ (RR.2 a _ hf) e3) (e2.trans Z) (S.put e2 e3 (RR.2 a _ hf)) V
  exact ⟨_, hc, t_OB.to (V := updV (vp_V fs) k v) ⟨_, e1, q2, q3, t_set q4 hap hk v⟩ (fun j _ => vp_updV_set hl9 v j)⟩
theorem aw_putM {q : vw_C} {ci index a : Nat} {fs : List Value} {v : Value} {dc nm ds : String} {fin : Bool} (k : Nat) (hf : h a = some (.inr (ci, fs))) (hc : vwCl[ci]? = some q) (hT : q.2.1 k = (dc, nm, ds, fin)) (hk : k < q.2.2) {ty : FieldType} {fs' : List Value} (hdp : parseFieldDescriptor ds = some ty) (hn : narrow ty v = v) (hfit : fits ty v = true) (hfs : fs.set k v = fs') (hl9 : k < fs.length) {ref : String} (hfin : fin = false) (hsf : Cond.sameField ref dc nm ds ∈ lw_tbl) (hl : Cond.fieldLink mm.1.cls index ref nm ds ∈ lw_tbl) (hd : decode mm.2.1 pc = .ok (.putfield index, 3)) (kk : aw G mm tb R Qf cells slots (hw h a (.inr (ci, fs'))) nx (pc + 3) L st) : aw G mm tb R Qf cells slots h nx pc L (v :: .ref a :: st) := by
  intro p l e s m args below meth c H locs ls C RR Z S V
  have ec := aCk_of ci q hc
  have C0 := id C
  obtain ⟨hx, hb, hml, hown, hts, hr, hlk, htb, ⟨hK, hKr⟩, hl2, hnm0⟩ := C0
  obtain ⟨hin, hnm, ty0, hty⟩ := ec
  have hap := va_apart (C := q.1) (T := q.2.1) (N := q.2.2) (own := mm.1.cls) hts hin ty0 hty hnm hK hc
  obtain ⟨r, g1, cell, q1, q2, q3, q4⟩ := RR.1 a _ hf
  have er : r = q := Option.some.inj (g1.symm.trans hc)
  subst er
  obtain ⟨hS, hfc, kC, hkC, hkind⟩ := hK.1 ci _ hc
  obtain ⟨cf, kf, fi, f, hi, hsl⟩ := hS k hk
  have hlay := hts _ (hin _ (u_in_lay hk))
  unfold u_lay at hlay
  rw [if_neg (by rw [hT, hfin]; exact Bool.false_ne_true)] at hlay
  have hst := (u_facts hfc hkC (u_lays hts hin hk) hi).1
  have h6 := u_store hfc hkC hkind hlay hi (by rw [hT]; exact hdp) hn hfit
  rw [hT] at hi
  refine W.putK hx hb (f := f) ⟨hown, hts _ (aWd_of hl rfl), ⟨_, _, _, u_same (hts _ (aWd_of hsf rfl)) _ hi⟩, hst⟩ (by rw [q2]; exact h6) q1 q3 (by rw [hsl]; exact k2_hasslot (q4 k hk)) rfl rfl hd fun H' e1 e2 e3 => ?_
  rw [hsl] at e1 ⊢
  subst hfs
  refine kk p l e s m args below meth c H' _ ls C (aRep_set RR ?_ (RR.2 a _ hf) e3) (e2.trans Z) (S.put e2 e3 (RR.2 a _ hf)) V
  exact ⟨_, hc, t_OB.to (V := updV (vp_V fs) k v) ⟨_, e1, q2, q3, t_set q4 hap hk v⟩ (fun j _ => vp_updV_set hl9 v j)⟩
theorem aw_putF {q : vw_C} {ci index a : Nat} {fs : List Value} {v : Value} {dc nm ds : String} {fin : Bool} (k : Nat) (hf : h a = some (.inr (ci, fs))) (hc : vwCl[ci]? = some q) (hT : q.2.1 k = (dc, nm, ds, fin)) (hk : k < q.2.2) {ty : FieldType} {fs' : List Value} (hdp : parseFieldDescriptor ds = some ty) (hn : narrow ty v = v) (hfit : fits ty v = true) (hfs : fs.set k v = fs') (hl9 : k < fs.length) (hfin : fin = true) (hini : mm.1.name = "<init>") (hown9 : dc = mm.1.cls) (hl : Cond.fieldLink mm.1.cls index dc nm ds ∈ lw_tbl) (hd : decode mm.2.1 pc = .ok (.putfield index, 3)) (kk : aw G mm tb R Qf cells slots (hw h a (.inr (ci, fs'))) nx (pc + 3) L st) : aw G mm tb R Qf cells slots h nx pc L (v :: .ref a :: st) := by
  intro p l e s m args below meth c H locs ls C RR Z S V
  have ec := aCk_of ci q hc
  have C0 := id C
  obtain ⟨hx, hb, hml, hown, hts, hr, hlk, htb, ⟨hK, hKr⟩, hl2, hnm0⟩ := C0
  obtain ⟨hin, hnm, ty0, hty⟩ := ec
  have hap := va_apart (C := q.1) (T := q.2.1) (N := q.2.2) (own := mm.1.cls) hts hin ty0 hty hnm hK hc
  obtain ⟨r, g1, cell, q1, q2, q3, q4⟩ := RR.1 a _ hf
  have er : r = q := Option.some.inj (g1.symm.trans hc)
  subst er
  obtain ⟨hS, hfc, kC, hkC, hkind⟩ := hK.1 ci _ hc
  obtain ⟨cf, kf, fi, f, hi, hsl⟩ := hS k hk
  have hlay := hts _ (hin _ (u_in_lay hk))
  unfold u_lay at hlay
  rw [if_pos (by rw [hT, hfin])] at hlay
  have hst := (u_facts hfc hkC (u_lays hts hin hk) hi).1
  have hcf : m.cls = cf := by
    obtain ⟨_, _, c', _, _, _, -, -, hf', -, -, -, hown2, -⟩ := Cond.laysFinal_spec hlay
    have e1 : c' = cf := by have := hi.symm.trans hf'; simp at this; exact this.1.symm
    rw [hT] at hown2
    have hown2 : s.vm.findClass dc = some c' := hown2
    rw [hown9] at hown2
    rw [← e1]; exact Option.some.inj (hown.symm.trans hown2)
  have h6 := u_fits hfc hkC hkind (Or.inr hlay) hi (by rw [hT]; exact hdp) hn hfit
  rw [hT] at hi
  refine W.putFinK hx hb hown (hts _ (aWd_of hl rfl)) hi hst hcf (hnm0.trans hini) (by rw [q2]; exact h6) q1 q3 (by rw [hsl]; exact k2_hasslot (q4 k hk)) rfl rfl hd fun H' e1 e2 e3 => ?_
  rw [hsl] at e1 ⊢
  subst hfs
  refine kk p l e s m args below meth c H' _ ls C (aRep_set RR ?_ (RR.2 a _ hf) e3) (e2.trans Z) (S.put e2 e3 (RR.2 a _ hf)) V
  exact ⟨_, hc, t_OB.to (V := updV (vp_V fs) k v) ⟨_, e1, q2, q3, t_set q4 hap hk v⟩ (fun j _ => vp_updV_set hl9 v j)⟩
theorem aw_iaload {a n k : Nat} {f : Nat → Int32} (hf : h a = some (.inl (0, n, .inl f))) (hk : k < n) (hn : n < 2 ^ 31) (hd : decode mm.2.1 pc = .ok (.iaload, 1)) (kk : aw G mm tb R Qf cells slots h nx (pc + 1) L (.int (f k) :: st)) : aw G mm tb R Qf cells slots h nx pc L (.int (nI k) :: .ref a :: st) := by
  intro p l e s m args below meth c H locs ls C RR Z S V
  have hc : (nI k).toNatClampNeg = k := nI_clamp (by omega)
  refine va_iald C.1 C.2.1 C.2.2.2.2.2.2.2.2.1.1 (aRep_P RR hf) 0 0 rfl rfl (vp_in_nI hk hn) hd ?_
  rw [hc]
  exact kk p l e s m args below meth c H locs ls C RR Z S V
theorem aw_zaload {a n k : Nat} {f : Nat → Int32} (hf : h a = some (.inl (1, n, .inl f))) (hk : k < n) (hn : n < 2 ^ 31) (hd : decode mm.2.1 pc = .ok (.baload, 1)) (kk : aw G mm tb R Qf cells slots h nx (pc + 1) L (.int (f k) :: st)) : aw G mm tb R Qf cells slots h nx pc L (.int (nI k) :: .ref a :: st) := by
  intro p l e s m args below meth c H locs ls C RR Z S V
  have hc : (nI k).toNatClampNeg = k := nI_clamp (by omega)
  refine va_zald C.1 C.2.1 C.2.2.2.2.2.2.2.2.1.1 (aRep_P RR hf) 0 1 rfl rfl (vp_in_nI hk hn) hd ?_
  rw [hc]
  exact kk p l e s m args below meth c H locs ls C RR Z S V
theorem aw_laload {a n k : Nat} {f : Nat → Int64} (hf : h a = some (.inl (2, n, .inr (.inl f)))) (hk : k < n) (hn : n < 2 ^ 31) (hd : decode mm.2.1 pc = .ok (.laload, 1)) (kk : aw G mm tb R Qf cells slots h nx (pc + 1) L (.long (f k) :: st)) : aw G mm tb R Qf cells slots h nx pc L (.int (nI k) :: .ref a :: st) := by
  intro p l e s m args below meth c H locs ls C RR Z S V
  have hc : (nI k).toNatClampNeg = k := nI_clamp (by omega)
  refine va_lald C.1 C.2.1 C.2.2.2.2.2.2.2.2.1.1 (aRep_P RR hf) 0 2 rfl rfl (vp_in_nI hk hn) hd ?_
  rw [hc]
  exact kk p l e s m args below meth c H locs ls C RR Z S V
theorem aw_daload {a n k : Nat} {f : Nat → UInt64} (hf : h a = some (.inl (3, n, .inr (.inr (.inr (.inl f)))))) (hk : k < n) (hn : n < 2 ^ 31) (hd : decode mm.2.1 pc = .ok (.daload, 1)) (kk : aw G mm tb R Qf cells slots h nx (pc + 1) L (.double (f k) :: st)) : aw G mm tb R Qf cells slots h nx pc L (.int (nI k) :: .ref a :: st) := by
  intro p l e s m args below meth c H locs ls C RR Z S V
  have hc : (nI k).toNatClampNeg = k := nI_clamp (by omega)
  refine va_dald C.1 C.2.1 C.2.2.2.2.2.2.2.2.1.1 (aRep_P RR hf) 0 3 rfl rfl (vp_in_nI hk hn) hd ?_
  rw [hc]
  exact kk p l e s m args below meth c H locs ls C RR Z S V
theorem aw_aaloadO {a n k : Nat} {f : Nat → Option Nat} (hf : h a = some (.inl (4, n, .inr (.inr (.inr (.inr f)))))) (hk : k < n) (hn : n < 2 ^ 31) (hd : decode mm.2.1 pc = .ok (.aaload, 1)) (kk : aw G mm tb R Qf cells slots h nx (pc + 1) L (va_rf (f k) :: st)) : aw G mm tb R Qf cells slots h nx pc L (.int (nI k) :: .ref a :: st) := by
  intro p l e s m args below meth c H locs ls C RR Z S V
  have hc : (nI k).toNatClampNeg = k := nI_clamp (by omega)
  refine va_aldq (C := "java/lang/Object") C.1 C.2.1 C.2.2.2.2.2.2.2.2.1.1 (aRep_P RR hf) 0 4 rfl rfl (vp_in_nI hk hn) hd ?_
  rw [hc]
  exact kk p l e s m args below meth c H locs ls C RR Z S V
theorem aw_aaloadD {a n k : Nat} {f : Nat → Option Nat} (hf : h a = some (.inl (5, n, .inr (.inr (.inr (.inr f)))))) (hk : k < n) (hn : n < 2 ^ 31) (hd : decode mm.2.1 pc = .ok (.aaload, 1)) (kk : aw G mm tb R Qf cells slots h nx (pc + 1) L (va_rf (f k) :: st)) : aw G mm tb R Qf cells slots h nx pc L (.int (nI k) :: .ref a :: st) := by
  intro p l e s m args below meth c H locs ls C RR Z S V
  have hc : (nI k).toNatClampNeg = k := nI_clamp (by omega)
  refine va_aldq (C := "ShuffleHall$Deck") C.1 C.2.1 C.2.2.2.2.2.2.2.2.1.1 (aRep_P RR hf) 0 5 rfl rfl (vp_in_nI hk hn) hd ?_
  rw [hc]
  exact kk p l e s m args below meth c H locs ls C RR Z S V
theorem aw_aaloadS {a n k : Nat} {f : Nat → Option Nat} (hf : h a = some (.inl (6, n, .inr (.inr (.inr (.inr f)))))) (hk : k < n) (hn : n < 2 ^ 31) (hd : decode mm.2.1 pc = .ok (.aaload, 1)) (kk : aw G mm tb R Qf cells slots h nx (pc + 1) L (va_rf (f k) :: st)) : aw G mm tb R Qf cells slots h nx pc L (.int (nI k) :: .ref a :: st) := by
  intro p l e s m args below meth c H locs ls C RR Z S V
  have hc : (nI k).toNatClampNeg = k := nI_clamp (by omega)
  refine va_aldq (C := "ShuffleHall$Sequence") C.1 C.2.1 C.2.2.2.2.2.2.2.2.1.1 (aRep_P RR hf) 0 6 rfl rfl (vp_in_nI hk hn) hd ?_
  rw [hc]
  exact kk p l e s m args below meth c H locs ls C RR Z S V
theorem aw_aaloadI {a n k : Nat} {f : Nat → Option Nat} (hf : h a = some (.inl (7, n, .inr (.inr (.inr (.inr f)))))) (hk : k < n) (hn : n < 2 ^ 31) (hd : decode mm.2.1 pc = .ok (.aaload, 1)) (kk : aw G mm tb R Qf cells slots h nx (pc + 1) L (va_rf (f k) :: st)) : aw G mm tb R Qf cells slots h nx pc L (.int (nI k) :: .ref a :: st) := by
  intro p l e s m args below meth c H locs ls C RR Z S V
  have hc : (nI k).toNatClampNeg = k := nI_clamp (by omega)
  exact W.aald (v := va_rf (f k)) (ty := .array .int) C.1 C.2.1 (RR.1 a _ hf) ((C.2.2.2.2.2.2.2.2.1.1.2 7 _ rfl).1 n (fun j => va_rf (f j))) rfl (fun q => by cases q) (by show ¬ (nI k < 0 ∨ (arrV _ _ _).slots.size ≤ _); rw [arrV_size]; exact vp_in_nI hk hn) (by show (arrV _ _ _).slots[_]? = _; rw [hc, arrV_read _ _ hk]) rfl rfl hd (kk p l e s m args below meth c H locs ls C RR Z S V)
theorem aw_lenI {a n : Nat} {x : (Nat → Int32) ⊕ (Nat → Int64) ⊕ (Nat → UInt32) ⊕ (Nat → UInt64) ⊕ (Nat → Option Nat)} (hf : h a = some (.inl (0, n, x))) (hd : decode mm.2.1 pc = .ok (.arraylength, 1)) (kk : aw G mm tb R Qf cells slots h nx (pc + 1) L (.int (nI n) :: st)) : aw G mm tb R Qf cells slots h nx pc L (.ref a :: st) := by
  intro p l e s m args below meth c H locs ls C RR Z S V
  exact va_alen (v := nI n) C.1 C.2.1 C.2.2.2.2.2.2.2.2.1.1 (aRep_P RR hf) 0 0 rfl rfl rfl hd (kk p l e s m args below meth c H locs ls C RR Z S V)
theorem aw_lenZ {a n : Nat} {x : (Nat → Int32) ⊕ (Nat → Int64) ⊕ (Nat → UInt32) ⊕ (Nat → UInt64) ⊕ (Nat → Option Nat)} (hf : h a = some (.inl (1, n, x))) (hd : decode mm.2.1 pc = .ok (.arraylength, 1)) (kk : aw G mm tb R Qf cells slots h nx (pc + 1) L (.int (nI n) :: st)) : aw G mm tb R Qf cells slots h nx pc L (.ref a :: st) := by
  intro p l e s m args below meth c H locs ls C RR Z S V
  exact va_alen (v := nI n) C.1 C.2.1 C.2.2.2.2.2.2.2.2.1.1 (aRep_P RR hf) 0 1 rfl rfl rfl hd (kk p l e s m args below meth c H locs ls C RR Z S V)
theorem aw_lenJ {a n : Nat} {x : (Nat → Int32) ⊕ (Nat → Int64) ⊕ (Nat → UInt32) ⊕ (Nat → UInt64) ⊕ (Nat → Option Nat)} (hf : h a = some (.inl (2, n, x))) (hd : decode mm.2.1 pc = .ok (.arraylength, 1)) (kk : aw G mm tb R Qf cells slots h nx (pc + 1) L (.int (nI n) :: st)) : aw G mm tb R Qf cells slots h nx pc L (.ref a :: st) := by
  intro p l e s m args below meth c H locs ls C RR Z S V
  exact va_alen (v := nI n) C.1 C.2.1 C.2.2.2.2.2.2.2.2.1.1 (aRep_P RR hf) 0 2 rfl rfl rfl hd (kk p l e s m args below meth c H locs ls C RR Z S V)
theorem aw_lenD {a n : Nat} {x : (Nat → Int32) ⊕ (Nat → Int64) ⊕ (Nat → UInt32) ⊕ (Nat → UInt64) ⊕ (Nat → Option Nat)} (hf : h a = some (.inl (3, n, x))) (hd : decode mm.2.1 pc = .ok (.arraylength, 1)) (kk : aw G mm tb R Qf cells slots h nx (pc + 1) L (.int (nI n) :: st)) : aw G mm tb R Qf cells slots h nx pc L (.ref a :: st) := by
  intro p l e s m args below meth c H locs ls C RR Z S V
  exact va_alen (v := nI n) C.1 C.2.1 C.2.2.2.2.2.2.2.2.1.1 (aRep_P RR hf) 0 3 rfl rfl rfl hd (kk p l e s m args below meth c H locs ls C RR Z S V)
theorem aw_lenO {a n : Nat} {x : (Nat → Int32) ⊕ (Nat → Int64) ⊕ (Nat → UInt32) ⊕ (Nat → UInt64) ⊕ (Nat → Option Nat)} (hf : h a = some (.inl (4, n, x))) (hd : decode mm.2.1 pc = .ok (.arraylength, 1)) (kk : aw G mm tb R Qf cells slots h nx (pc + 1) L (.int (nI n) :: st)) : aw G mm tb R Qf cells slots h nx pc L (.ref a :: st) := by
  intro p l e s m args below meth c H locs ls C RR Z S V
  exact va_alen (v := nI n) C.1 C.2.1 C.2.2.2.2.2.2.2.2.1.1 (aRep_P RR hf) 0 4 rfl rfl rfl hd (kk p l e s m args below meth c H locs ls C RR Z S V)
theorem aw_lenK {a n : Nat} {x : (Nat → Int32) ⊕ (Nat → Int64) ⊕ (Nat → UInt32) ⊕ (Nat → UInt64) ⊕ (Nat → Option Nat)} (hf : h a = some (.inl (5, n, x))) (hd : decode mm.2.1 pc = .ok (.arraylength, 1)) (kk : aw G mm tb R Qf cells slots h nx (pc + 1) L (.int (nI n) :: st)) : aw G mm tb R Qf cells slots h nx pc L (.ref a :: st) := by
  intro p l e s m args below meth c H locs ls C RR Z S V
  exact va_alen (v := nI n) C.1 C.2.1 C.2.2.2.2.2.2.2.2.1.1 (aRep_P RR hf) 0 5 rfl rfl rfl hd (kk p l e s m args below meth c H locs ls C RR Z S V)
theorem aw_lenS {a n : Nat} {x : (Nat → Int32) ⊕ (Nat → Int64) ⊕ (Nat → UInt32) ⊕ (Nat → UInt64) ⊕ (Nat → Option Nat)} (hf : h a = some (.inl (6, n, x))) (hd : decode mm.2.1 pc = .ok (.arraylength, 1)) (kk : aw G mm tb R Qf cells slots h nx (pc + 1) L (.int (nI n) :: st)) : aw G mm tb R Qf cells slots h nx pc L (.ref a :: st) := by
  intro p l e s m args below meth c H locs ls C RR Z S V
  exact va_alen (v := nI n) C.1 C.2.1 C.2.2.2.2.2.2.2.2.1.1 (aRep_P RR hf) 0 6 rfl rfl rfl hd (kk p l e s m args below meth c H locs ls C RR Z S V)
theorem aw_lenR {a n : Nat} {x : (Nat → Int32) ⊕ (Nat → Int64) ⊕ (Nat → UInt32) ⊕ (Nat → UInt64) ⊕ (Nat → Option Nat)} (hf : h a = some (.inl (7, n, x))) (hd : decode mm.2.1 pc = .ok (.arraylength, 1)) (kk : aw G mm tb R Qf cells slots h nx (pc + 1) L (.int (nI n) :: st)) : aw G mm tb R Qf cells slots h nx pc L (.ref a :: st) := by
  intro p l e s m args below meth c H locs ls C RR Z S V
  exact va_alen (v := nI n) C.1 C.2.1 C.2.2.2.2.2.2.2.2.1.1 (aRep_P RR hf) 0 7 rfl rfl rfl hd (kk p l e s m args below meth c H locs ls C RR Z S V)
theorem aw_iastore {a n k : Nat} {f : Nat → Int32} {x : Int32} (hf : h a = some (.inl (0, n, .inl f))) (hk : k < n) (hn : n < 2 ^ 31) (hd : decode mm.2.1 pc = .ok (.iastore, 1)) (kk : aw G mm tb R Qf cells slots (hw h a (.inl (0, n, .inl (upd f k x)))) nx (pc + 1) L st) : aw G mm tb R Qf cells slots h nx pc L (.int x :: .int (nI k) :: .ref a :: st) := by
  intro p l e s m args below meth c H locs ls C RR Z S V
  have hc : (nI k).toNatClampNeg = k := nI_clamp (by omega)
  refine W.iast C.1 C.2.1 (RR.1 a _ hf) ((C.2.2.2.2.2.2.2.2.1.1.2 0 _ rfl).1 n (fun j => .int (f j))) (fun q => by cases q) (by show ¬ (nI k < 0 ∨ (arrV _ _ _).slots.size ≤ _); rw [arrV_size]; exact vp_in_nI hk hn) rfl rfl hd fun H1 e1 z oq => ?_
  refine kk p l e s m args below meth c H1 _ ls C (aRep_set RR ?_ (RR.2 a _ hf) oq) (z.trans Z) (S.put z oq (RR.2 a _ hf)) V
  show H1[a]? = some (vp_cell _ _)
  rw [e1]
  show some ((vp_cell _ (n, .inl f)).setSlot _ _) = some (vp_cell _ (n, .inl (upd f k x)))
  rw [vp_cell_i, vp_cell_i, hc, arrV_store]
  congr 2
  funext q
  by_cases hq : q = k
  · subst hq
    simp [updV, upd, vp_updL, vf_upd]
  · simp [updV, upd, vp_updL, vf_upd, hq]
theorem aw_zastore {a n k : Nat} {f : Nat → Int32} {x : Int32} (hf : h a = some (.inl (1, n, .inl f))) (hk : k < n) (hn : n < 2 ^ 31) (hz : narrow .boolean (.int x) = .int x) (hd : decode mm.2.1 pc = .ok (.bastore, 1)) (kk : aw G mm tb R Qf cells slots (hw h a (.inl (1, n, .inl (upd f k x)))) nx (pc + 1) L st) : aw G mm tb R Qf cells slots h nx pc L (.int x :: .int (nI k) :: .ref a :: st) := by
  intro p l e s m args below meth c H locs ls C RR Z S V
  have hc : (nI k).toNatClampNeg = k := nI_clamp (by omega)
  refine W.zast C.1 C.2.1 (RR.1 a _ hf) ((C.2.2.2.2.2.2.2.2.1.1.2 1 _ rfl).1 n (fun j => .int (f j))) (fun q => by cases q) (by show ¬ (nI k < 0 ∨ (arrV _ _ _).slots.size ≤ _); rw [arrV_size]; exact vp_in_nI hk hn) rfl rfl hd fun H1 e1 z oq => ?_
  refine kk p l e s m args below meth c H1 _ ls C (aRep_set RR ?_ (RR.2 a _ hf) oq) (z.trans Z) (S.put z oq (RR.2 a _ hf)) V
  show H1[a]? = some (vp_cell _ _)
  rw [e1]
  show some ((vp_cell _ (n, .inl f)).setSlot _ _) = some (vp_cell _ (n, .inl (upd f k x)))
  rw [vp_cell_i, vp_cell_i, hc, arrV_store]
  congr 2
  funext q
  by_cases hq : q = k
  · subst hq
    simp [updV, upd, vp_updL, vf_upd, hz]
  · simp [updV, upd, vp_updL, vf_upd, hq]
theorem aw_lastore {a n k : Nat} {f : Nat → Int64} {x : Int64} (hf : h a = some (.inl (2, n, .inr (.inl f)))) (hk : k < n) (hn : n < 2 ^ 31) (hd : decode mm.2.1 pc = .ok (.lastore, 1)) (kk : aw G mm tb R Qf cells slots (hw h a (.inl (2, n, .inr (.inl (vp_updL f k x))))) nx (pc + 1) L st) : aw G mm tb R Qf cells slots h nx pc L (.long x :: .int (nI k) :: .ref a :: st) := by
  intro p l e s m args below meth c H locs ls C RR Z S V
  have hc : (nI k).toNatClampNeg = k := nI_clamp (by omega)
  refine W.last C.1 C.2.1 (RR.1 a _ hf) ((C.2.2.2.2.2.2.2.2.1.1.2 2 _ rfl).1 n (fun j => .long (f j))) (fun q => by cases q) (by show ¬ (nI k < 0 ∨ (arrV _ _ _).slots.size ≤ _); rw [arrV_size]; exact vp_in_nI hk hn) rfl rfl hd fun H1 e1 z oq => ?_
  refine kk p l e s m args below meth c H1 _ ls C (aRep_set RR ?_ (RR.2 a _ hf) oq) (z.trans Z) (S.put z oq (RR.2 a _ hf)) V
  show H1[a]? = some (vp_cell _ _)
  rw [e1]
  show some ((vp_cell _ (n, .inr (.inl f))).setSlot _ _) = some (vp_cell _ (n, .inr (.inl (vp_updL f k x))))
  rw [vp_cell_l, vp_cell_l, hc, arrV_store]
  congr 2
  funext q
  by_cases hq : q = k
  · subst hq
    simp [updV, upd, vp_updL, vf_upd]
  · simp [updV, upd, vp_updL, vf_upd, hq]
theorem aw_dastore {a n k : Nat} {f : Nat → UInt64} {x : UInt64} (hf : h a = some (.inl (3, n, .inr (.inr (.inr (.inl f)))))) (hk : k < n) (hn : n < 2 ^ 31) (hd : decode mm.2.1 pc = .ok (.dastore, 1)) (kk : aw G mm tb R Qf cells slots (hw h a (.inl (3, n, .inr (.inr (.inr (.inl (vf_upd f k x))))))) nx (pc + 1) L st) : aw G mm tb R Qf cells slots h nx pc L (.double x :: .int (nI k) :: .ref a :: st) := by
  intro p l e s m args below meth c H locs ls C RR Z S V
  have hc : (nI k).toNatClampNeg = k := nI_clamp (by omega)
  refine W.dast C.1 C.2.1 (RR.1 a _ hf) ((C.2.2.2.2.2.2.2.2.1.1.2 3 _ rfl).1 n (fun j => .double (f j))) (fun q => by cases q) (by show ¬ (nI k < 0 ∨ (arrV _ _ _).slots.size ≤ _); rw [arrV_size]; exact vp_in_nI hk hn) rfl rfl hd fun H1 e1 z oq => ?_
  refine kk p l e s m args below meth c H1 _ ls C (aRep_set RR ?_ (RR.2 a _ hf) oq) (z.trans Z) (S.put z oq (RR.2 a _ hf)) V
  show H1[a]? = some (vp_cell _ _)
  rw [e1]
  show some ((vp_cell _ (n, .inr (.inr (.inr (.inl f))))).setSlot _ _) = some (vp_cell _ (n, .inr (.inr (.inr (.inl (vf_upd f k x))))))
  rw [vp_cell_d, vp_cell_d, hc, arrV_store]
  congr 2
  funext q
  by_cases hq : q = k
  · subst hq
    simp [updV, upd, vp_updL, vf_upd]
  · simp [updV, upd, vp_updL, vf_upd, hq]
end AHEAP
end
section
theorem vr_outer (c : ClassId) (N h0 : Nat) : ∀ i : Nat, Jvm.Free.Multi.outerC c N h0 i = arrV c N (fun j => va_rf (if j < i then some (h0 + 1 + j) else none))
  | 0 => by
    show ({ cls := c, slots := Array.replicate N .null, vm := .none } : Cell) = _
    rw [arrV_new]
    refine congrArg (arrV c N) (funext fun j => ?_)
    simp [va_rf]
  | i + 1 => by
    show (Jvm.Free.Multi.outerC c N h0 i).setSlot i (.ref (h0 + 1 + i)) = _
    rw [vr_outer c N h0 i, arrV_store]
    refine congrArg (arrV c N) (funext fun j => ?_)
    by_cases e : j = i
    · subst e
      simp [updV, va_rf]
    · by_cases h : j < i
      · simp [updV, e, h, Nat.lt_succ_of_lt h]
      · simp [updV, e, h, show ¬ j < i + 1 by omega]
/-! ===== ROWS that make cells ===== -/
section ANEW
variable {G : aG} {mm : aM} {tb : List (Nat × Nat × Nat × Nat)} {R : Room} {Qf : aQf} {cells slots : Nat} {h : aH} {nx pc : Nat} {L : aL} {st : List Value}
theorem aw_new {q : vw_C} {ci index : Nat} {fs : List Value} (hc : vwCl[ci]? = some q) (hcl : Cond.classLink mm.1.cls index q.1 ∈ lw_tbl) (hins : Cond.instantiable q.1 q.2.2 ∈ lw_tbl) (hini : Cond.initialized q.1 ∈ lw_tbl) (hfs : ∀ j, j < q.2.2 → (parseFieldDescriptor (q.2.1 j).2.2.1).map defaultValue = some (vp_V fs j)) (h1 : cells + 1 ≤ R.cells) (h2 : slots + q.2.2 ≤ R.slots) (hd : decode mm.2.1 pc = .ok (.new index, 3))
    (kk : aw G mm tb R Qf (cells + 1) (slots + q.2.2) (hw h nx (.inr (ci, fs))) (nx + 1) (pc + 3) L (.ref nx :: st)) : aw G mm tb R Qf cells slots h nx pc L st := by
  intro p l e s m args below meth c H locs ls C RR Z S V
  obtain ⟨hin, hnm, ty0, hty⟩ := aCk_of ci q hc
  have C0 := id C
  obtain ⟨hx, hb, hml, hown, hts, hr, hlk, htb, ⟨hK, hKr⟩, hl2, hnm0⟩ := C0
  have hKn := hK.1 ci _ hc
  refine W.newcK hx hb hown (hts _ (aWd_of hcl rfl)) (hts _ (aWd_of hins rfl)) (hts _ (aWd_of hini rfl)) rfl hd h1 h2 hKn.2.1 rfl fun H1 kC hkC e1 z1 o1 => ?_
  subst Z
  refine kk p l e s m args below meth c H1 locs ls C (aRep_push RR ?_ (Nat.le_trans hKr.2.2.1 S.1) o1) z1 (S.push (by omega) o1) V
  exact ⟨_, hc, (u_born ty0 hts hin hKn hkC e1 hty).to (fun j hj => by
    have e9 := hfs j hj
    rw [hty j hj] at e9
    exact Option.some.inj e9)⟩
theorem aw_newarrI {n : Nat} (hn : n ≤ 65536) (hac : Cond.arrayClass .int ∈ lw_tbl) (h1 : cells + 1 ≤ R.cells) (h2 : slots + n ≤ R.slots) (hd : decode mm.2.1 pc = .ok (.newarray .int, 2))
    (kk : aw G mm tb R Qf (cells + 1) (slots + n) (hw h nx (.inl (0, n, .inl (fun _ => 0)))) (nx + 1) (pc + 2) L (.ref nx :: st)) : aw G mm tb R Qf cells slots h nx pc L (.int (nI n) :: st) := by
  intro p l e s m args below meth c H locs ls C RR Z S V
  have C0 := id C
  obtain ⟨hx, hb, hml, hown, hts, hr, hlk, htb, ⟨hK, hKr⟩, hl2, hnm0⟩ := C0
  refine va_newaK (atype := .int) hx hb (hts _ (aWd_of hac rfl)) rfl hd rfl (nI_pos (by omega)) (nI_clamp (by omega)) (by show n * _ ≤ _; simp [componentBytes, newarray.typeOf]; omega) h1 h2 rfl fun H1 cA e1 z1 o1 hAr hNm => ?_
  have hcA : cA = G.2.1 0 := Option.some.inj (hNm.symm.trans (hK.2 0 _ rfl).2)
  subst hcA
  subst Z
  refine kk p l e s m args below meth c H1 locs ls C (aRep_push RR ?_ (Nat.le_trans hKr.2.2.1 S.1) o1) z1 (S.push (by omega) o1) V
  exact e1
theorem aw_newarrZ {n : Nat} (hn : n ≤ 65536) (hac : Cond.arrayClass .boolean ∈ lw_tbl) (h1 : cells + 1 ≤ R.cells) (h2 : slots + n ≤ R.slots) (hd : decode mm.2.1 pc = .ok (.newarray .boolean, 2))
    (kk : aw G mm tb R Qf (cells + 1) (slots + n) (hw h nx (.inl (1, n, .inl (fun _ => 0)))) (nx + 1) (pc + 2) L (.ref nx :: st)) : aw G mm tb R Qf cells slots h nx pc L (.int (nI n) :: st) := by
  intro p l e s m args below meth c H locs ls C RR Z S V
  have C0 := id C
  obtain ⟨hx, hb, hml, hown, hts, hr, hlk, htb, ⟨hK, hKr⟩, hl2, hnm0⟩ := C0
  refine va_newaK (atype := .boolean) hx hb (hts _ (aWd_of hac rfl)) rfl hd rfl (nI_pos (by omega)) (nI_clamp (by omega)) (by show n * _ ≤ _; simp [componentBytes, newarray.typeOf]; omega) h1 h2 rfl fun H1 cA e1 z1 o1 hAr hNm => ?_
  have hcA : cA = G.2.1 1 := Option.some.inj (hNm.symm.trans (hK.2 1 _ rfl).2)
  subst hcA
  subst Z
  refine kk p l e s m args below meth c H1 locs ls C (aRep_push RR ?_ (Nat.le_trans hKr.2.2.1 S.1) o1) z1 (S.push (by omega) o1) V
  exact e1
theorem aw_newarrJ {n : Nat} (hn : n ≤ 65536) (hac : Cond.arrayClass .long ∈ lw_tbl) (h1 : cells + 1 ≤ R.cells) (h2 : slots + n ≤ R.slots) (hd : decode mm.2.1 pc = .ok (.newarray .long, 2))
    (kk : aw G mm tb R Qf (cells + 1) (slots + n) (hw h nx (.inl (2, n, .inr (.inl (fun _ => 0))))) (nx + 1) (pc + 2) L (.ref nx :: st)) : aw G mm tb R Qf cells slots h nx pc L (.int (nI n) :: st) := by
  intro p l e s m args below meth c H locs ls C RR Z S V
  have C0 := id C
  obtain ⟨hx, hb, hml, hown, hts, hr, hlk, htb, ⟨hK, hKr⟩, hl2, hnm0⟩ := C0
  refine va_newaK (atype := .long) hx hb (hts _ (aWd_of hac rfl)) rfl hd rfl (nI_pos (by omega)) (nI_clamp (by omega)) (by show n * _ ≤ _; simp [componentBytes, newarray.typeOf]; omega) h1 h2 rfl fun H1 cA e1 z1 o1 hAr hNm => ?_
  have hcA : cA = G.2.1 2 := Option.some.inj (hNm.symm.trans (hK.2 2 _ rfl).2)
  subst hcA
  subst Z
  refine kk p l e s m args below meth c H1 locs ls C (aRep_push RR ?_ (Nat.le_trans hKr.2.2.1 S.1) o1) z1 (S.push (by omega) o1) V
  exact e1
theorem aw_newarrD {n : Nat} (hn : n ≤ 65536) (hac : Cond.arrayClass .double ∈ lw_tbl) (h1 : cells + 1 ≤ R.cells) (h2 : slots + n ≤ R.slots) (hd : decode mm.2.1 pc = .ok (.newarray .double, 2))
    (kk : aw G mm tb R Qf (cells + 1) (slots + n) (hw h nx (.inl (3, n, .inr (.inr (.inr (.inl (fun _ => 0))))))) (nx + 1) (pc + 2) L (.ref nx :: st)) : aw G mm tb R Qf cells slots h nx pc L (.int (nI n) :: st) := by
  intro p l e s m args below meth c H locs ls C RR Z S V
  have C0 := id C
  obtain ⟨hx, hb, hml, hown, hts, hr, hlk, htb, ⟨hK, hKr⟩, hl2, hnm0⟩ := C0
  refine va_newaK (atype := .double) hx hb (hts _ (aWd_of hac rfl)) rfl hd rfl (nI_pos (by omega)) (nI_clamp (by omega)) (by show n * _ ≤ _; simp [componentBytes, newarray.typeOf]; omega) h1 h2 rfl fun H1 cA e1 z1 o1 hAr hNm => ?_
  have hcA : cA = G.2.1 3 := Option.some.inj (hNm.symm.trans (hK.2 3 _ rfl).2)
  subst hcA
  subst Z
  refine kk p l e s m args below meth c H1 locs ls C (aRep_push RR ?_ (Nat.le_trans hKr.2.2.1 S.1) o1) z1 (S.push (by omega) o1) V
  exact e1
theorem aw_anewO {n index : Nat} (hn : n ≤ 65536) (hcl : Cond.classLink mm.1.cls index "java/lang/Object" ∈ lw_tbl) (h1 : cells + 1 ≤ R.cells) (h2 : slots + n ≤ R.slots) (hd : decode mm.2.1 pc = .ok (.anewarray index, 3))
    (kk : aw G mm tb R Qf (cells + 1) (slots + n) (hw h nx (.inl (4, n, .inr (.inr (.inr (.inr (fun _ => none))))))) (nx + 1) (pc + 3) L (.ref nx :: st)) : aw G mm tb R Qf cells slots h nx pc L (.int (nI n) :: st) := by
  intro p l e s m args below meth c H locs ls C RR Z S V
  have C0 := id C
  obtain ⟨hx, hb, hml, hown, hts, hr, hlk, htb, ⟨hK, hKr⟩, hl2, hnm0⟩ := C0
  have hcl9 : (nI n).toNatClampNeg = n := nI_clamp (by omega)
  refine W.anew (C := "java/lang/Object") hx hb hown (hts _ (aWd_of hcl rfl)) (va_AO.use hKr.2.2.2.2.2.1.1) rfl hd rfl (nI_pos (by omega)) (by rw [hcl9]; omega) h1 (by rw [hcl9]; exact h2) fun cA kA comp f1 f2 f3 f4 => ?_
  rw [hcl9]
  obtain ⟨kA9, comp9, -, -, -, g4⟩ := (hK.2 4 _ rfl).2
  have hcA : cA = G.2.1 4 := Option.some.inj (f1.symm.trans g4)
  subst hcA
  generalize hH1 : H.push ({ cls := G.2.1 4, slots := Array.replicate n .null, vm := .none } : Cell) = H1
  have z1 : H1.size = H.size + 1 := by rw [← hH1, Array.size_push]
  have e1 : H1[H.size]? = some (arrV (G.2.1 4) n (fun _ => .null)) := by rw [← hH1, Array.getElem?_push_size, ← arrV_new]
  have o1 : ∀ q : Nat, q < H.size → H1[q]? = H[q]? := fun q hq => by rw [← hH1, Array.getElem?_push, if_neg (Nat.ne_of_lt hq)]
  subst Z
  refine kk p l e s m args below meth c H1 locs ls C (aRep_push RR ?_ (Nat.le_trans hKr.2.2.1 S.1) o1) z1 (S.push (by omega) o1) V
  exact e1
theorem aw_anewK {n index : Nat} (hn : n ≤ 65536) (hcl : Cond.classLink mm.1.cls index "ShuffleHall$Deck" ∈ lw_tbl) (h1 : cells + 1 ≤ R.cells) (h2 : slots + n ≤ R.slots) (hd : decode mm.2.1 pc = .ok (.anewarray index, 3))
    (kk : aw G mm tb R Qf (cells + 1) (slots + n) (hw h nx (.inl (5, n, .inr (.inr (.inr (.inr (fun _ => none))))))) (nx + 1) (pc + 3) L (.ref nx :: st)) : aw G mm tb R Qf cells slots h nx pc L (.int (nI n) :: st) := by
  intro p l e s m args below meth c H locs ls C RR Z S V
  have C0 := id C
  obtain ⟨hx, hb, hml, hown, hts, hr, hlk, htb, ⟨hK, hKr⟩, hl2, hnm0⟩ := C0
  have hcl9 : (nI n).toNatClampNeg = n := nI_clamp (by omega)
  refine W.anew (C := "ShuffleHall$Deck") hx hb hown (hts _ (aWd_of hcl rfl)) (va_AO.use hKr.2.2.2.2.2.1.2.1) rfl hd rfl (nI_pos (by omega)) (by rw [hcl9]; omega) h1 (by rw [hcl9]; exact h2) fun cA kA comp f1 f2 f3 f4 => ?_
  rw [hcl9]
  obtain ⟨kA9, comp9, -, -, -, g4⟩ := (hK.2 5 _ rfl).2
  have hcA : cA = G.2.1 5 := Option.some.inj (f1.symm.trans g4)
  subst hcA
  generalize hH1 : H.push ({ cls := G.2.1 5, slots := Array.replicate n .null, vm := .none } : Cell) = H1
  have z1 : H1.size = H.size + 1 := by rw [← hH1, Array.size_push]
  have e1 : H1[H.size]? = some (arrV (G.2.1 5) n (fun _ => .null)) := by rw [← hH1, Array.getElem?_push_size, ← arrV_new]
  have o1 : ∀ q : Nat, q < H.size → H1[q]? = H[q]? := fun q hq => by rw [← hH1, Array.getElem?_push, if_neg (Nat.ne_of_lt hq)]
  subst Z
  refine kk p l e s m args below meth c H1 locs ls C (aRep_push RR ?_ (Nat.le_trans hKr.2.2.1 S.1) o1) z1 (S.push (by omega) o1) V
  exact e1
theorem aw_anewS {n index : Nat} (hn : n ≤ 65536) (hcl : Cond.classLink mm.1.cls index "ShuffleHall$Sequence" ∈ lw_tbl) (h1 : cells + 1 ≤ R.cells) (h2 : slots + n ≤ R.slots) (hd : decode mm.2.1 pc = .ok (.anewarray index, 3))
    (kk : aw G mm tb R Qf (cells + 1) (slots + n) (hw h nx (.inl (6, n, .inr (.inr (.inr (.inr (fun _ => none))))))) (nx + 1) (pc + 3) L (.ref nx :: st)) : aw G mm tb R Qf cells slots h nx pc L (.int (nI n) :: st) := by
  intro p l e s m args below meth c H locs ls C RR Z S V
  have C0 := id C
  obtain ⟨hx, hb, hml, hown, hts, hr, hlk, htb, ⟨hK, hKr⟩, hl2, hnm0⟩ := C0
  have hcl9 : (nI n).toNatClampNeg = n := nI_clamp (by omega)
  refine W.anew (C := "ShuffleHall$Sequence") hx hb hown (hts _ (aWd_of hcl rfl)) (va_AO.use hKr.2.2.2.2.2.1.2.2.1) rfl hd rfl (nI_pos (by omega)) (by rw [hcl9]; omega) h1 (by rw [hcl9]; exact h2) fun cA kA comp f1 f2 f3 f4 => ?_
  rw [hcl9]
  obtain ⟨kA9, comp9, -, -, -, g4⟩ := (hK.2 6 _ rfl).2
  have hcA : cA = G.2.1 6 := Option.some.inj (f1.symm.trans g4)
  subst hcA
  generalize hH1 : H.push ({ cls := G.2.1 6, slots := Array.replicate n .null, vm := .none } : Cell) = H1
  have z1 : H1.size = H.size + 1 := by rw [← hH1, Array.size_push]
  have e1 : H1[H.size]? = some (arrV (G.2.1 6) n (fun _ => .null)) := by rw [← hH1, Array.getElem?_push_size, ← arrV_new]
  have o1 : ∀ q : Nat, q < H.size → H1[q]? = H[q]? := fun q hq => by rw [← hH1, Array.getElem?_push, if_neg (Nat.ne_of_lt hq)]
  subst Z
  refine kk p l e s m args below meth c H1 locs ls C (aRep_push RR ?_ (Nat.le_trans hKr.2.2.1 S.1) o1) z1 (S.push (by omega) o1) V
  exact e1
/-- n rows of k ints behind their outer array -/
def hwR (h : aH) (q n k : Nat) : aH := fun a => if q < a ∧ a < q + 1 + n then some (.inl (0, k, .inl (fun _ => 0))) else if a = q then some (.inl (7, n, .inr (.inr (.inr (.inr (fun i => if i < n then some (q + 1 + i) else none)))))) else h a
theorem aw_mnewR {n k index : Nat} (hn : n ≤ 4096) (hk : k ≤ 4096) (hcl : Cond.classLink mm.1.cls index "[[I" ∈ lw_tbl) (hac : Cond.arrayClass .int ∈ lw_tbl) (h1 : cells + (1 + n) ≤ R.cells) (h2 : slots + (n + n * k) ≤ R.slots) (hd : decode mm.2.1 pc = .ok (.multianewarray index 2, 4))
    (kk : aw G mm tb R Qf (cells + 1 + n) (slots + n + n * k) (hwR h nx n k) (nx + 1 + n) (pc + 4) L (.ref nx :: st)) : aw G mm tb R Qf cells slots h nx pc L (.int (nI k) :: .int (nI n) :: st) := by
  intro p l e s m args below meth c H locs ls C RR Z S V
  have C0 := id C
  obtain ⟨hx, hb, hml, hown, hts, hr, hlk, htb, ⟨hK, hKr⟩, hl2, hnm0⟩ := C0
  have hcn : (nI n).toNatClampNeg = n := nI_clamp (by omega)
  have hck : (nI k).toNatClampNeg = k := nI_clamp (by omega)
  intro T hT Xs
  have hAO : (Cond.arrayOver (.array .int)).before args s = true := hKr.2.2.2.2.2.1.2.2.2
  obtain ⟨vm₁, cA, comp, hW1, fA, fC, hO, hI, X', step⟩ := Xs.multianewarray2F hx hown (index := index) (ty := .int) (hts _ (aWd_of hcl rfl)) hAO (hts _ (aWd_of hac rfl)) (g := F0 m pc ls (.int (nI k) :: .int (nI n) :: st)) rfl (by rw [hb]; exact hd) (n := nI n) (k := nI k) rfl (nI_pos (by omega)) (nI_pos (by omega)) (by rw [hcn]; omega) (by rw [hck]; simp [componentBytes]; omega) (by rw [hck]; omega) rfl rfl (by rw [hcn]; exact h1) (by rw [hcn, hck]; exact h2)
  rw [hcn, hck] at X' step
  have hcA : cA = G.2.1 7 := Option.some.inj (fA.symm.trans (hK.2 7 _ rfl).2)
  have hcc : comp = G.2.1 0 := Option.some.inj (fC.symm.trans (hK.2 0 _ rfl).2)
  subst hcA hcc
  generalize hF : Jvm.Free.Multi.fill (T.setVm vm₁) (G.2.1 7) (G.2.1 0) n k (defaultValue .int) n = F at X' step
  have hTh : (T.setVm vm₁).heap = H := hT
  obtain ⟨f1, f2, -, -⟩ := Jvm.Free.Multi.fill_facts (T.setVm vm₁) (G.2.1 7) (G.2.1 0) n k (defaultValue .int) n
  rw [hF, hTh] at f1 f2
  have hold : ∀ x : Nat, x < H.size → F.heap[x]? = H[x]? := fun x hx => by
    have := Jvm.Free.Multi.fill_old (T.setVm vm₁) (G.2.1 7) (G.2.1 0) n k (defaultValue .int) (a := x) (by rw [hTh]; exact hx) n
    rw [hF, hTh] at this
    exact this
  have hrow : ∀ j : Nat, j < n → F.heap[H.size + 1 + j]? = some (vp_cell (G.2.1 0) (k, .inl (fun _ => 0))) := fun j hj => by
    have := Jvm.Free.Multi.fill_inner (T.setVm vm₁) (G.2.1 7) (G.2.1 0) n k (defaultValue .int) n j hj
    rw [hF, hTh] at this
    rw [this, vp_cell_i, ← arrV_new]
    rfl
  have hout : Jvm.Free.Multi.outerC (G.2.1 7) n H.size n = vp_cell (G.2.1 7) (n, .inr (.inr (.inr (.inr (fun i => if i < n then some (H.size + 1 + i) else none))))) := by
    rw [vp_cell_q]
    exact vr_outer (G.2.1 7) n H.size n
  rw [hout] at f2
  subst Z
  have RR' : aRep G (hwR h H.size n k) F.heap := by
    have hbs : G.2.2.1 ≤ H.size := Nat.le_trans hKr.2.2.1 S.1
    refine ⟨fun a f hf => ?_, fun a f hf => ?_⟩
    · unfold hwR at hf
      by_cases q : H.size < a ∧ a < H.size + 1 + n
      · rw [if_pos q] at hf
        cases hf
        have e9 := hrow (a - (H.size + 1)) (by omega)
        rw [show H.size + 1 + (a - (H.size + 1)) = a by omega] at e9
        exact e9
      · rw [if_neg q] at hf
        by_cases q2 : a = H.size
        · rw [if_pos q2] at hf
          cases hf
          rw [q2]
          exact f2
        · rw [if_neg q2] at hf
          exact (RR.1 a f hf).kept (hold a (RR.1 a f hf).lt)
    · unfold hwR at hf
      by_cases q : H.size < a ∧ a < H.size + 1 + n
      · omega
      · rw [if_neg q] at hf
        by_cases q2 : a = H.size
        · omega
        · rw [if_neg q2] at hf
          exact RR.2 a f hf
  obtain ⟨t, a1, b1⟩ := kk p l e s m args below meth c F.heap locs ls C RR' (by rw [f1]) (S.push (by rw [f1]; omega) hold) V F rfl X'
  refine ⟨t, step t ?_, b1⟩
  rw [hT]
  exact a1
end ANEW
/-! ===== CALLS ===== -/
/-- a method of ours, as the tables have it -/
def aOk (mm : aM) (n : Nat) : Prop := Cond.code mm.1 mm.2.1 mm.2.2.1 mm.2.2.2 ∈ lw_tbl ∧ Cond.initialized mm.1.cls ∈ lw_tbl ∧ (mm.1.cls ≠ "java/lang/invoke/MethodHandle" ∧ mm.1.cls ≠ "java/lang/invoke/VarHandle" ∧ (parseMethodDescriptor mm.1.desc).map (fun d => d.parameters.length) = some n)
def aOkV (mm : aM) (n : Nat) : Prop := aOk mm n ∧ Cond.instanceMethod mm.1 ∈ lw_tbl ∧ Cond.selects mm.1.cls mm.1 mm.1 ∈ lw_tbl
def aOkS (mm : aM) (n : Nat) : Prop := aOk mm n ∧ Cond.static mm.1 ∈ lw_tbl
def aOkI (mm : aM) (n : Nat) : Prop := aOk mm n ∧ Cond.instanceMethod mm.1 ∈ lw_tbl ∧ mm.1.name = "<init>" ∧ mm.2.2.2 = none
theorem aGood {mm : aM} {n : Nat} (ok : aOk mm n) : GoodIn aWd (aws mm) := fun w hw => by
  rcases List.mem_cons.mp hw with rfl | hw
  · exact ⟨aWd_of ok.1 rfl, good_of_word rfl⟩
  · exact ⟨hw, aWd_good w hw⟩
theorem aGoodV {mm : aM} {n idx : Nat} {own : String} (ok : aOkV mm n) (hl : Cond.methodLink own idx mm.1 ∈ lw_tbl) : GoodIn aWd (wsV own idx mm.1.cls mm.1 (aws mm)) := fun w hw => by
  unfold wsV at hw
  simp only [List.cons_append, List.nil_append, List.mem_cons] at hw
  rcases hw with rfl | rfl | rfl | rfl | hw
  · exact ⟨aWd_of hl rfl, good_of_word rfl⟩
  · exact ⟨aWd_of ok.2.1 rfl, good_of_word rfl⟩
  · exact ⟨aWd_of ok.2.2 rfl, good_of_word rfl⟩
  · exact ⟨aWd_of ok.1.2.1 rfl, good_of_word rfl⟩
  · exact aGood ok.1 w hw
theorem aGoodS {mm : aM} {n idx : Nat} {own : String} (ok : aOkS mm n) (hl : Cond.methodLink own idx mm.1 ∈ lw_tbl) : GoodIn aWd (va_wsS own idx mm.1 (aws mm)) := fun w hw => by
  unfold va_wsS at hw
  simp only [List.cons_append, List.nil_append, List.mem_cons] at hw
  rcases hw with rfl | rfl | rfl | hw
  · exact ⟨aWd_of hl rfl, good_of_word rfl⟩
  · exact ⟨aWd_of ok.2 rfl, good_of_word rfl⟩
  · exact ⟨aWd_of ok.1.2.1 rfl, good_of_word rfl⟩
  · exact aGood ok.1 w hw
section ACALL
variable {G : aG} {mm mm' : aM} {tb : List (Nat × Nat × Nat × Nat)} {R : Room} {Qf : aQf} {cells slots mc ms k' : Nat} {h : aH} {nx pc idx n : Nat} {L : aL} {st rest As : List Value} {po : aPost} {b : Nat}
theorem aPc_at {as : List Value} {s : State} {H : Heap} {locs : List Loc} (hK : aK G s) (RR : aRep G h H) (Z : H.size = nx) (S : va_S (aBs G) s.heap H locs) : ∀ U : State, U.heap = H → s.WarmedH U.vm → aPc G as h nx as.toArray U := fun U hU hW => ⟨rfl, by rw [hU]; exact RR, by rw [hU]; exact Z, hK.moved hW (by rw [hU]; exact S.1) (by rw [hU]; exact S.2.1)⟩
theorem aw_ofRun {args : Array Value} {p : Program} {l : Launch} {e : Env} {s : State} {m : MethodId} {below : List Frame} {meth : Method} {c : Code} {H : Heap} {locs : List Loc} {ls : Array Slot} {as : Array Value}
    (hr : vx_Run p l e R s m args below meth c H locs cells slots mc ms (F0 m pc ls st) rest (aQc G po as) (aXC G po) (aBs G)) (C : aCx G mm tb p l s m args meth c) (Z : H.size = nx) (S : va_S (aBs G) s.heap H locs) (V : lv_has ls mm.2.2.1 L)
    (kk : ∀ (v : Option Value) (h1 : aH) (n1 : Nat), po (.inl v) h1 n1 → nx ≤ n1 → aw G mm tb R Qf (cells + mc) (slots + ms) h1 n1 (pc + 3) L (v.toList ++ rest))
    (kx : ∀ (E : String) (h1 : aH) (n1 : Nat), po (.inr E) h1 n1 → nx ≤ n1 → awx G mm tb R Qf (cells + mc) (slots + ms) h1 n1 pc L E) :
    W p l e R s m args below meth c H locs cells slots (Qf below args s) (F0 m pc ls st) := by
  intro T hT X
  have key : ∀ {st₀ t T' : State} {L9 : List Loc}, st₀.heap = H → T'.heap = t.heap → (∀ q ∈ L9, aBs G q.base) → va_F (aBs G) st₀ t → nx ≤ t.heap.size ∧ va_S (aBs G) s.heap T'.heap (locs ++ L9) := by
    intro st₀ t T' L9 h0 e1 hL hF
    obtain ⟨k1, k2, k3⟩ := vx_keep h0 e1 S (fun q _ hq => hq) (fun q hq => hq) hL hF
    exact ⟨by rw [← Z, ← e1]; exact k1, k3⟩
  rcases hr T hT X with ⟨v, st₀, t, T', L9, h0, X', hL, e1, e2, ⟨v2, h1, hv, RR1, hp, hF⟩, stp⟩ | ⟨q, st₀, t, T', L9, E, ce, h0, X', hL, e1, e2, ⟨h1, RR1, hp, hF⟩, hce, hcv, hcl, stp⟩
  · obtain ⟨hz, S1⟩ := key h0 e1 hL hF
    cases hv
    obtain ⟨t2, a1, b1⟩ := kk v h1 t.heap.size hp hz p l e s m args below meth c T'.heap (locs ++ L9) ls C (by rw [e1]; exact RR1) (by rw [e1]) S1 V T' rfl X'
    exact ⟨t2, stp t2 a1, b1⟩
  · obtain ⟨hz, S1⟩ := key h0 e1 hL hF
    obtain ⟨t2, a1, b1⟩ := kx E h1 t.heap.size hp hz p l e s m args below meth c T'.heap (locs ++ L9) ls rest q ce C (by rw [e1]; exact RR1) (by rw [e1]) S1 V (by rw [e1]; exact hce) hcv hcl T' rfl X'
    exact ⟨t2, stp.trans a1, b1⟩

theorem aw_callV {q : vw_C} {ci : Nat} {fs : List Value} (hM : aMet G mm' k' mc ms (.ref b :: As) h nx po) (ok : aOkV mm' n) (hl : Cond.methodLink mm.1.cls idx mm'.1 ∈ lw_tbl) (hf : h b = some (.inr (ci, fs))) (hc : vwCl[ci]? = some q) (hq : q.1 = mm'.1.cls) (hn : As.length = n) (hst : st = As.reverse ++ .ref b :: rest) (hcat : (rest.map fun v => v.category).sum ≤ 8) (hd : decode mm.2.1 pc = .ok (.invokevirtual idx, 3)) (hR : k' + 1 ≤ R.frames ∧ 8 + (mm'.2.2.1 + 11) + 40 * k' ≤ R.locals) (hcl : cells + mc ≤ R.cells ∧ slots + ms ≤ R.slots)
    (kk : ∀ (v : Option Value) (h1 : aH) (n1 : Nat), po (.inl v) h1 n1 → nx ≤ n1 → aw G mm tb R Qf (cells + mc) (slots + ms) h1 n1 (pc + 3) L (v.toList ++ rest))
    (kx : ∀ (E : String) (h1 : aH) (n1 : Nat), po (.inr E) h1 n1 → nx ≤ n1 → awx G mm tb R Qf (cells + mc) (slots + ms) h1 n1 pc L E) : aw G mm tb R Qf cells slots h nx pc L st := by
  intro p l e s m args below meth c H locs ls C RR Z S V
  have C0 := id C
  obtain ⟨hx, hb, hml, hown, hts, hr, hlk, htb, hK, hl2, hnm0⟩ := C0
  refine aw_ofRun (vx_runV (As := As) (rest := rest) ⟨hx, hb, hml, hown, hts⟩ (hM l hl2) (cwV n hts (aGoodV ok hl) rfl rfl rfl ⟨rfl, ok.1.2.2⟩ hR) ⟨aPc_blind, ?_, aPc_at hK RR Z S⟩ rfl hn V.1 hst (lv_room hcat) hd hcl) C Z S V kk kx
  have e := va_recv (q := q) hK.1 (aRep_P RR hf) hc (q0 := 0) rfl
  rw [hq] at e
  exact e
theorem aw_callS (hM : aMet G mm' k' mc ms As h nx po) (ok : aOkS mm' n) (hl : Cond.methodLink mm.1.cls idx mm'.1 ∈ lw_tbl) (hn : As.length = n) (hst : st = As.reverse ++ rest) (hcat : (rest.map fun v => v.category).sum ≤ 8) (hd : decode mm.2.1 pc = .ok (.invokestatic idx, 3)) (hR : k' + 1 ≤ R.frames ∧ 8 + (mm'.2.2.1 + 11) + 40 * k' ≤ R.locals) (hcl : cells + mc ≤ R.cells ∧ slots + ms ≤ R.slots)
    (kk : ∀ (v : Option Value) (h1 : aH) (n1 : Nat), po (.inl v) h1 n1 → nx ≤ n1 → aw G mm tb R Qf (cells + mc) (slots + ms) h1 n1 (pc + 3) L (v.toList ++ rest))
    (kx : ∀ (E : String) (h1 : aH) (n1 : Nat), po (.inr E) h1 n1 → nx ≤ n1 → awx G mm tb R Qf (cells + mc) (slots + ms) h1 n1 pc L E) : aw G mm tb R Qf cells slots h nx pc L st := by
  intro p l e s m args below meth c H locs ls C RR Z S V
  have C0 := id C
  obtain ⟨hx, hb, hml, hown, hts, hr, hlk, htb, hK, hl2, hnm0⟩ := C0
  exact aw_ofRun (vx_runS (As := As) (rest := rest) ⟨hx, hb, hml, hown, hts⟩ (hM l hl2) (va_cwS n hts (aGoodS ok hl) rfl rfl rfl ok.1.2.2 hR) ⟨aPc_blind, aPc_at hK RR Z S⟩ rfl hn V.1 hst (lv_room hcat) hd hcl) C Z S V kk kx
theorem aw_callI (hM : aMet G mm' k' mc ms (.ref b :: As) h nx po) (ok : aOkI mm' n) (hl : Cond.methodLink mm.1.cls idx mm'.1 ∈ lw_tbl) (hn : As.length = n) (hst : st = As.reverse ++ .ref b :: rest) (hcat : (rest.map fun v => v.category).sum ≤ 8) (hd : decode mm.2.1 pc = .ok (.invokespecial idx, 3)) (hR : k' + 1 ≤ R.frames ∧ 8 + (mm'.2.2.1 + 11) + 40 * k' ≤ R.locals) (hcl : cells + mc ≤ R.cells ∧ slots + ms ≤ R.slots)
    (kk : ∀ (v : Option Value) (h1 : aH) (n1 : Nat), po (.inl v) h1 n1 → nx ≤ n1 → aw G mm tb R Qf (cells + mc) (slots + ms) h1 n1 (pc + 3) L (v.toList ++ rest))
    (kx : ∀ (E : String) (h1 : aH) (n1 : Nat), po (.inr E) h1 n1 → nx ≤ n1 → awx G mm tb R Qf (cells + mc) (slots + ms) h1 n1 pc L E) : aw G mm tb R Qf cells slots h nx pc L st := by
  intro p l e s m args below meth c H locs ls C RR Z S V
  have C0 := id C
  obtain ⟨hx, hb, hml, hown, hts, hr, hlk, htb, hK, hl2, hnm0⟩ := C0
  refine aw_ofRun (vx_runI (As := As) (rest := rest) (b := b) ⟨hx, hb, hml, hown, hts⟩ (hM l hl2) (cwI (bytes := mm'.2.1) (ws' := aWd) n hts (aGood ok.1) (by unfold aws; rw [ok.2.2.2]) rfl rfl (hts _ (aWd_of ok.1.2.1 rfl)) (hts _ (aWd_of hl rfl)) (hts _ (aWd_of ok.2.1 rfl)) ok.2.2.1 ok.1.2.2 hR) ⟨aPc_blind, aPc_at hK RR Z S⟩ rfl hn V.1 hst (lv_room hcat) hd hcl) C Z S V kk kx
theorem aw_callIN {host : String} (hM : aMet G mm' k' mc ms (.ref b :: As) h nx po) (ok : aOkI mm' n) (hl : Cond.methodLinkNest mm.1.cls idx mm'.1 host ∈ lw_tbl) (hn : As.length = n) (hst : st = As.reverse ++ .ref b :: rest) (hcat : (rest.map fun v => v.category).sum ≤ 8) (hd : decode mm.2.1 pc = .ok (.invokespecial idx, 3)) (hR : k' + 1 ≤ R.frames ∧ 8 + (mm'.2.2.1 + 11) + 40 * k' ≤ R.locals) (hcl : cells + mc ≤ R.cells ∧ slots + ms ≤ R.slots)
    (kk : ∀ (v : Option Value) (h1 : aH) (n1 : Nat), po (.inl v) h1 n1 → nx ≤ n1 → aw G mm tb R Qf (cells + mc) (slots + ms) h1 n1 (pc + 3) L (v.toList ++ rest))
    (kx : ∀ (E : String) (h1 : aH) (n1 : Nat), po (.inr E) h1 n1 → nx ≤ n1 → awx G mm tb R Qf (cells + mc) (slots + ms) h1 n1 pc L E) : aw G mm tb R Qf cells slots h nx pc L st := by
  intro p l e s m args below meth c H locs ls C RR Z S V
  have C0 := id C
  obtain ⟨hx, hb, hml, hown, hts, hr, hlk, htb, hK, hl2, hnm0⟩ := C0
  have hcn := va_cnB (host := host) (own := mm.1.cls) (index := idx) (rm := aRoom k' mc ms) (R := R) (mc := mc) (ms := ms) (ws := aws mm') (ws' := aWd) n hts (aGood ok.1) rfl rfl rfl (hK.2.1 _ (aWn_of hl rfl)) (hts _ (aWd_of ok.1.2.1 rfl)) ok.1.2.2 hR
  rw [ok.2.2.2] at hcn
  exact aw_ofRun (vx_runIN (As := As) (rest := rest) (b := b) ⟨hx, hb, hml, hown, hts⟩ (hM l hl2) ⟨hcn, ok.2.2.1, hts _ (aWd_of ok.2.1 rfl)⟩ ⟨aPc_blind, aPc_at hK RR Z S⟩ rfl hn V.1 hst (lv_room hcat) hd hcl) C Z S V kk kx
theorem aw_callSN {host : String} (hM : aMet G mm' k' mc ms As h nx po) (ok : aOkS mm' n) (hl : Cond.methodLinkNest mm.1.cls idx mm'.1 host ∈ lw_tbl) (hn : As.length = n) (hst : st = As.reverse ++ rest) (hcat : (rest.map fun v => v.category).sum ≤ 8) (hd : decode mm.2.1 pc = .ok (.invokestatic idx, 3)) (hR : k' + 1 ≤ R.frames ∧ 8 + (mm'.2.2.1 + 11) + 40 * k' ≤ R.locals) (hcl : cells + mc ≤ R.cells ∧ slots + ms ≤ R.slots)
    (kk : ∀ (v : Option Value) (h1 : aH) (n1 : Nat), po (.inl v) h1 n1 → nx ≤ n1 → aw G mm tb R Qf (cells + mc) (slots + ms) h1 n1 (pc + 3) L (v.toList ++ rest))
    (kx : ∀ (E : String) (h1 : aH) (n1 : Nat), po (.inr E) h1 n1 → nx ≤ n1 → awx G mm tb R Qf (cells + mc) (slots + ms) h1 n1 pc L E) : aw G mm tb R Qf cells slots h nx pc L st := by
  intro p l e s m args below meth c H locs ls C RR Z S V
  have C0 := id C
  obtain ⟨hx, hb, hml, hown, hts, hr, hlk, htb, hK, hl2, hnm0⟩ := C0
  have hcn := va_cnB (host := host) (own := mm.1.cls) (index := idx) (rm := aRoom k' mc ms) (R := R) (mc := mc) (ms := ms) (ws := aws mm') (ws' := aWd) n hts (aGood ok.1) rfl rfl rfl (hK.2.1 _ (aWn_of hl rfl)) (hts _ (aWd_of ok.1.2.1 rfl)) ok.1.2.2 hR
  exact aw_ofRun (vx_runSN (As := As) (rest := rest) ⟨hx, hb, hml, hown, hts⟩ (hM l hl2) ⟨hcn, hts _ (aWd_of ok.2 rfl), trivial⟩ ⟨aPc_blind, aPc_at hK RR Z S⟩ rfl hn V.1 hst (lv_room hcat) hd hcl) C Z S V kk kx
/-- the constructor of Object -/
theorem aw_objInit {a : Nat} (hl : Cond.methodLink mm.1.cls idx objectInit ∈ lw_tbl) (hi : Cond.instanceMethod objectInit ∈ lw_tbl) (hco : Cond.code objectInit ⟨#[0xb1]⟩ 1 none ∈ lw_tbl) (hcat : (rest.map fun v => v.category).sum + 12 ≤ R.locals) (hfr : 1 ≤ R.frames) (hd : decode mm.2.1 pc = .ok (.invokespecial idx, 3)) (kk : aw G mm tb R Qf cells slots h nx (pc + 3) L rest) : aw G mm tb R Qf cells slots h nx pc L (.ref a :: rest) := by
  intro p l e s m args below meth c H locs ls C RR Z S V
  refine W.objInit C.1 C.2.1 C.2.2.2.1 (C.2.2.2.2.1 _ (aWd_of hl rfl)) (C.2.2.2.2.1 _ (aWd_of hi rfl)) (C.2.2.2.2.1 _ (aWd_of hco rfl)) rfl (by rw [C.2.2.1]; exact V.1) rfl hd hfr ?_ (kk p l e s m args below meth c H locs ls C RR Z S V)
  show 2 * 0 + _ + 12 ≤ _
  omega
/-- 'throw new E("text")' -/
theorem aw_throw {E text : String} {names : List String} {ik is ic : Nat} (hf : Bundle.fit E = true) (hns : ∀ n ∈ names, Bundle.fit n = true) (hk : Cond.classLink mm.1.cls ik E ∈ lw_tbl) (hini : Cond.initialized E ∈ lw_tbl) (hs : (mm.1.cls, is, text) ∈ aStr) (hat : ∀ w ∈ vx_atS mm.1.cls ic E names, w ∈ lw_tbl ∧ (goodWord w || aNk w) = true)
    (d0 : decode mm.2.1 pc = .ok (.new ik, 3)) (d3 : decode mm.2.1 (pc + 3) = .ok (.dup, 1)) (d4 : decode mm.2.1 (pc + 4) = .ok (.ldc is, 2)) (d6 : decode mm.2.1 (pc + 6) = .ok (.invokespecial ic, 3)) (d9 : decode mm.2.1 (pc + 9) = .ok (.athrow, 1)) (ho : ∀ x ∈ tableOf tb, covers x (pc + 9) = false)
    (hfr : names.length + 3 < R.frames) (hlo : (rest.map fun v => v.category).sum + (13 * (names.length + 1) + 43) ≤ R.locals) (h1 : cells + 1 ≤ R.cells) (h2 : slots + 6 ≤ R.slots) (hp : ∀ n1, nx ≤ n1 → po (.inr E) h n1) (h3 : cells + 1 ≤ mc) (h4 : slots + 6 ≤ ms) : aw G mm tb R (aEnd G po mc ms) cells slots h nx pc L rest := by
  intro p l e s m args below meth c H locs ls C RR Z S V
  have C0 := id C
  obtain ⟨hx, hb, hml, hown, hts, hr, hlk, htb, hK, hl2, hnm0⟩ := C0
  obtain ⟨sa, hsa⟩ := hK.2.2.1 _ hs
  have hg : ∀ w ∈ vx_atS mm.1.cls ic E names, vx_ot w = true := fun w hw => by
    have h9 := (hat w hw).2
    unfold vx_ot
    rw [Bool.or_eq_true] at h9 ⊢
    rcases h9 with h9 | h9
    · exact Or.inr h9
    · exact Or.inl (aNk_ot h9)
  refine vx_throwS (names := names) hx hb hl2 hown hf hns (hts _ (aWd_of hk rfl)) (hts _ (aWd_of hini rfl)) hsa (fun w hw => ?_) (fun w hw => ?_) hK.2.2.2.2.1 hK.2.2.2.2.2.1 S (V.1.trans hml.symm) d0 d3 d4 d6 d9 (by rw [htb]; exact ho) hfr hlo h1 h2 hlk (fun t hv hz hq => ?_) S.2.2 h3 h4
  · have h9 := (hat w hw).2
    rw [Bool.or_eq_true] at h9
    rcases h9 with h9 | h9
    · exact hts _ (aWd_of (hat w hw).1 h9)
    · exact va_Nw.use (aNk_ot h9) (hK.2.1 _ (aWn_of (hat w hw).1 h9))
  · rcases List.mem_cons.mp hw with rfl | hw
    · rfl
    · rcases List.mem_cons.mp hw with rfl | hw
      · rfl
      · exact hg w hw
  · refine ⟨h, aRep_keep RR hq, hp _ (by rw [← Z]; exact hz), ?_⟩
    exact ⟨Nat.le_trans S.1 hz, fun q h5 h6 => (hq q (Nat.lt_of_lt_of_le h5 S.1)).trans (S.2.1 q h5 h6)⟩
/-- a cast that holds -/
theorem aw_cast {q : vw_C} {ci index a : Nat} {fs : List Value} {nm : String} (hf : h a = some (.inr (ci, fs))) (hc : vwCl[ci]? = some q) (hl : Cond.classLink mm.1.cls index nm ∈ lw_tbl) (hca : Cond.castable q.1 nm ∈ lw_tbl) (hd : decode mm.2.1 pc = .ok (.checkcast index, 3)) (kk : aw G mm tb R Qf cells slots h nx (pc + 3) L (.ref a :: st)) : aw G mm tb R Qf cells slots h nx pc L (.ref a :: st) := by
  intro p l e s m args below meth c H locs ls C RR Z S V
  exact va_castY C.1 C.2.1 C.2.2.2.1 (C.2.2.2.2.1 _ (aWd_of hl rfl)) (C.2.2.2.2.2.2.2.2.1.2.1 _ (aWn_of hca rfl)) (va_recv (q := q) C.2.2.2.2.2.2.2.2.1.1 (aRep_P RR hf) hc (q0 := 0) rfl) hd (kk p l e s m args below meth c H locs ls C RR Z S V)
/-- Math.max, min, abs -/
theorem aw_max {x y : Int32} (hl : Cond.methodLink mm.1.cls idx Lib.Math.max.name ∈ lw_tbl) (hsx : Cond.static Lib.Math.max.name ∈ lw_tbl) (hi : Cond.initialized "java/lang/Math" ∈ lw_tbl) (hco : Cond.code Lib.Math.max.name Lib.Math.max.code 2 (some .int) ∈ lw_tbl) (hfr : 1 ≤ R.frames) (hlo : (rest.map fun v => v.category).sum + 13 ≤ R.locals) (h1 : cells ≤ R.cells) (h2 : slots ≤ R.slots) (hd : decode mm.2.1 pc = .ok (.invokestatic idx, 3)) (kk : aw G mm tb R Qf cells slots h nx (pc + 3) L (.int (if x < y then y else x) :: rest)) : aw G mm tb R Qf cells slots h nx pc L (.int y :: .int x :: rest) := by
  intro p l e s m args below meth c H locs ls C RR Z S V
  have hts := C.2.2.2.2.1
  exact va_mmax C.1 C.2.1 (C.2.2.1.trans V.1.symm) C.2.2.2.1 (hts _ (aWd_of hl rfl)) (hts _ (aWd_of hsx rfl)) (hts _ (aWd_of hi rfl)) (hts _ (aWd_of hco rfl)) hfr hlo h1 h2 hd (kk p l e s m args below meth c H locs ls C RR Z S V)
theorem aw_min {x y : Int32} (hl : Cond.methodLink mm.1.cls idx Lib.Math.min.name ∈ lw_tbl) (hsx : Cond.static Lib.Math.min.name ∈ lw_tbl) (hi : Cond.initialized "java/lang/Math" ∈ lw_tbl) (hco : Cond.code Lib.Math.min.name Lib.Math.min.code 2 (some .int) ∈ lw_tbl) (hfr : 1 ≤ R.frames) (hlo : (rest.map fun v => v.category).sum + 13 ≤ R.locals) (h1 : cells ≤ R.cells) (h2 : slots ≤ R.slots) (hd : decode mm.2.1 pc = .ok (.invokestatic idx, 3)) (kk : aw G mm tb R Qf cells slots h nx (pc + 3) L (.int (if y < x then y else x) :: rest)) : aw G mm tb R Qf cells slots h nx pc L (.int y :: .int x :: rest) := by
  intro p l e s m args below meth c H locs ls C RR Z S V
  have hts := C.2.2.2.2.1
  exact va_mmin C.1 C.2.1 (C.2.2.1.trans V.1.symm) C.2.2.2.1 (hts _ (aWd_of hl rfl)) (hts _ (aWd_of hsx rfl)) (hts _ (aWd_of hi rfl)) (hts _ (aWd_of hco rfl)) hfr hlo h1 h2 hd (kk p l e s m args below meth c H locs ls C RR Z S V)
end ACALL
theorem aMet.mono {G : aG} {mm : aM} {k mc ms : Nat} {as : List Value} {h : aH} {nx : Nat} {po po' : aPost} (hM : aMet G mm k mc ms as h nx po) (hp : ∀ o h n, po o h n → po' o h n) : aMet G mm k mc ms as h nx po' := by
  intro l hl p e ha hc hk s m args below hf happ hP hK
  obtain ⟨n, o, h1, h2, h3, h4⟩ := hM l hl p e ha hc hk s m args below hf happ hP hK
  refine ⟨n, o, h1, h2, h3, ?_⟩
  rcases h4 with ⟨⟨v, h9, e1, e2, e3, e4⟩, hL⟩ | ⟨q, e1, E, ce, L, ⟨h9, e2, e3, e4⟩, hr⟩
  · exact Or.inl ⟨⟨v, h9, e1, e2, hp _ _ _ e3, e4⟩, hL⟩
  · exact Or.inr ⟨q, e1, E, ce, L, ⟨h9, e2, hp _ _ _ e3, e4⟩, hr⟩
end
