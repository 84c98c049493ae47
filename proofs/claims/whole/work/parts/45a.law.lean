/-! THE CLAIM OUT OF ONE WALK OF THE LAW'S BODY. Your part is whole_start (and what it stands on); all else here is the same for every law, but numbers. -/
def R_law : String := "ShuffleHallLaw"
def lw_P (b : Addr) (xs : List Int32) (args : Array Value) (s : State) : Prop := args = #[.ref b] ∧ s.IntsAt b xs ∧ xs.length ≤ 2560 ∧ (Jvm.Cond.and given_1 narrow_1).before args s = true
/-- what a walk over the start with the record d0 says of its end, said of the start itself -/
theorem lw_closed {s t : State} {o : Outcome} {d0 : Drawn} {L : List Loc} {k n : Nat} (hd0 : s.drawn.sameBut d0 lw_cs) (hv : ∃ v, o = .returned v) (hW : (s.setDrawn d0).WarmedH t.vm) (hs : (s.setDrawn d0).sameButNew ({ t with vm := s.vm } : State) L k n) : State.butDraws s t lw_cs (fun t1 => Framed s o t1 L k n) := by
  have h2 : t.drawn = d0 := congrArg State.drawn hs.1
  refine ⟨⟨hv, hW, State.sameButNew.setDrawn hs s.drawn⟩, ?_, by decide⟩
  rw [h2]
  exact hd0
def lw_Q (_ : Array Value) (s : State) (o : Outcome) (t : State) : Prop := o = .returned (some (.int 1)) ∧ State.butDraws s t lw_cs (fun t1 => Framed s o t1 [] 641004 7173092)
def lw_Z (below : List Frame) (a : Array Value) (s : State) : State → Prop := fun t => ∃ o, t.status = .running ∧ Ended t below o ∧ lw_Q a s o t
/-- the law's own end, with 1 on the stack, nothing written that was there before, its room as the claim has it; d0: the record of draws at this point (at the entry s.drawn: begin with 'refine W.base ?_' and 'have hd0 := Drawn.sameBut.refl s.drawn lw_cs') -/
theorem lw_ret {p : Program} {l : Launch} {e : Env} {s : State} {m : MethodId} {below : List Frame} {meth : Method} {c : Code} {b : Nat} {d0 : Drawn} (hd0 : s.drawn.sameBut d0 lw_cs) (hx : p.tables.exec = Jvm.exec) (hb : c.code = code) (hr : meth.sig.returnType = ret) (hlocks : meth.locks = false) {pc : Nat} {H : Heap} {ls : Array Slot} (hdg : decode code pc = .ok (.ireturn, 1)) : W p l e room_1 (s.setDrawn d0) m #[Value.ref b] below meth c H [] 641004 7173092 (lw_Z below #[Value.ref b] s) (F0 m pc ls [.int 1]) := by
  intro T hT X
  obtain ⟨fs, hret, hrun, hended, hW, hframe⟩ := X.leave (v := some (.int 1)) (hlocks := hlocks) (fun h => by rw [hr] at h; cases h)
  have hmeth' : T.vm.method? m = some meth := X.method'
  refine ⟨T.setFrames fs, ?_, .returned (some (.int 1)), hrun, hended, rfl, lw_closed hd0 ⟨_, rfl⟩ hW hframe⟩
  jvm_step X.here [X.here.top, hx, hb, hdg, hmeth', hr, ret, narrow_b1]
  (try refine ⟨rfl, ?_⟩); (try refine ⟨rfl, ?_⟩)
  first | (intro acts; rw [hret _ acts rfl rfl rfl]) | rw [hret _ _ rfl rfl rfl]
  exact Steps.refl _

/-! ===== the law's own walk: what it reads of the script, how it ends ===== -/
abbrev mL_law : aM := (yL_law, cL_law, 9, some .boolean)
def lawH (G : aG) (b L : Nat) (xs : Nat → Int32) (args : Array Value) (s : State) : Prop := args = #[.ref b] ∧ va_X b L xs s s.heap ∧ b < s.heap.size ∧ s.heap.size = G.2.2.1
def lawQ (G : aG) (b L : Nat) (xs : Nat → Int32) : aQf := fun below args s t => lawH G b L xs args s → lw_Z below args s t
theorem W_vac {p : Program} {l : Launch} {e : Env} {R : Room} {s : State} {m : MethodId} {args : Array Value} {below : List Frame} {meth : Method} {c : Code} {H : Heap} {locs : List Loc} {cells slots : Nat} {P : Prop} {Q : State → Prop} {g : JFrame} (hn : ¬ P) : W p l e R s m args below meth c H locs cells slots (fun t => P → Q t) g := fun _ _ _ => ⟨_, Steps.refl _, fun h => absurd h hn⟩
section ALAW
variable {G : aG} {mm : aM} {tb : List (Nat × Nat × Nat × Nat)} {R : Room} {cells slots : Nat} {h : aH} {nx pc b L : Nat} {xs : Nat → Int32} {Lc : aL} {st : List Value}
theorem aw_slen (hd : decode mm.2.1 pc = .ok (.arraylength, 1)) (kk : aw G mm tb R (lawQ G b L xs) cells slots h nx (pc + 1) Lc (.int (nI L) :: st)) : aw G mm tb R (lawQ G b L xs) cells slots h nx pc Lc (.ref b :: st) := by
  intro p l e s m args below meth c H locs ls C RR Z S V
  by_cases hl : lawH G b L xs args s
  · exact va_slen C.1 C.2.1 hl.2.1 hl.2.2.1 (fun z => by have z2 : G.2.2.1 ≤ b := z; have := hl.2.2.1; have := hl.2.2.2; omega) S hd (kk p l e s m args below meth c H locs ls C RR Z S V)
  · exact W_vac hl
theorem aw_sld {i : Nat} (hi : i < L) (hL : L ≤ 2560) (hd : decode mm.2.1 pc = .ok (.iaload, 1)) (kk : aw G mm tb R (lawQ G b L xs) cells slots h nx (pc + 1) Lc (.int (xs i) :: st)) : aw G mm tb R (lawQ G b L xs) cells slots h nx pc Lc (.int (nI i) :: .ref b :: st) := by
  intro p l e s m args below meth c H locs ls C RR Z S V
  by_cases hl : lawH G b L xs args s
  · have hc : (nI i).toNatClampNeg = i := nI_clamp (by omega)
    refine va_sld C.1 C.2.1 hl.2.1 hl.2.2.1 (fun z => by have z2 : G.2.2.1 ≤ b := z; have := hl.2.2.1; have := hl.2.2.2; omega) S (vp_in_nI hi (by omega)) hd ?_
    rw [hc]
    exact kk p l e s m args below meth c H locs ls C RR Z S V
  · exact W_vac hl
theorem aw_dcmp {x y : UInt64} {op : CmpOp} (hd : decode mm.2.1 pc = .ok (.dcmp op, 1)) {Qf : aQf} (kk : aw G mm tb R Qf cells slots h nx (pc + 1) Lc (.int (Op.cmpValue (FP.dcmp x y) op) :: st)) : aw G mm tb R Qf cells slots h nx pc Lc (.double y :: .double x :: st) := by
  intro p l e s m args below meth c H locs ls C RR Z S V
  exact lv_dcmp C.1 C.2.1 hd (kk p l e s m args below meth c H locs ls C RR Z S V)
theorem aw_lawend (hd : decode code pc = .ok (.ireturn, 1)) (h1 : cells ≤ 641004) (h2 : slots ≤ 7173092) : aw G mL_law [] room_1 (lawQ G b L xs) cells slots h nx pc Lc [.int (nI 1)] := by
  intro p l e s m args below meth c H locs ls C RR Z S V
  by_cases hl : lawH G b L xs args s
  · obtain ⟨rfl, -, -, hz⟩ := hl
    refine va_forget (fun q hq => by have z2 : G.2.2.1 ≤ q.base := S.2.2 q hq; omega) ?_
    refine W.widen h1 h2 ?_
    refine W.base ?_
    intro T hT X
    obtain ⟨t, a1, a2⟩ := lw_ret (d0 := s.drawn) (pc := pc) (Drawn.sameBut.refl s.drawn lw_cs) C.1 C.2.1 C.2.2.2.2.2.1 C.2.2.2.2.2.2.1 hd T hT X
    exact ⟨t, a1, fun _ => a2⟩
  · exact W_vac hl
end ALAW
theorem lg_self (x : Int64) : lg_cmp x x = nI 0 := by
  unfold lg_cmp
  rw [if_neg (fun h => by have := Int64.lt_iff_toInt_lt.mp h; omega), if_pos rfl]; rfl
/-- what the law keeps: the class's table and the model's are in one state -/
def LInv (G : aG) (own : Nat → Nat) (h : aH) (nx q c : Nat) (σ : aSg) (th : Int32) : Prop :=
  MAt G own h nx (q + 204) σ th ∧ HallAt h q σ ∧ sgOk c σ ∧ (∀ b, b < q + 204 → own b = 0) ∧ (own (q + 207) = 0 ∧ own (q + 208) = 0) ∧ (∃ f : Nat → Int64, h (q + 207) = some (.inl (2, 1, .inr (.inl f)))) ∧ (∃ f : Nat → UInt64, h (q + 208) = some (.inl (3, 1, .inr (.inr (.inr (.inl f)))))) ∧ q + 209 ≤ nx
theorem LInv.A {G : aG} {own : Nat → Nat} {h h1 : aH} {nx n1 q c : Nat} {σ : aSg} {th : Int32} (I : LInv G own h nx q c σ th) (hn : nx ≤ n1) (o : ∀ b, (b < q ∨ q + 204 ≤ b) → b ≠ q + 207 → b ≠ q + 208 → h1 b = h b) : MAt G own h1 n1 (q + 204) σ th := by
  obtain ⟨i1, i2, i3, i4, ⟨i5, i6⟩, -⟩ := I
  refine i1.keep i3.1 i3.2.1 (fun b hb => i1.1 b (by omega)) (fun b hb => ⟨o b (Or.inr ?_) (fun z => hb (by rw [z]; exact i5)) (fun z => hb (by rw [z]; exact i6)), rfl⟩)
  rcases Nat.lt_or_ge b (q + 204) with z | z
  · exact absurd (i4 b z) hb
  · exact z
theorem LInv.B {G : aG} {own : Nat → Nat} {h h1 h2 : aH} {nx n1 n2 q c : Nat} {σ : aSg} {th : Int32} {r : aRs} {cd : String → Nat} {z : Value} {o2 : Option Value ⊕ String} {f : Nat → Int64} {g : Nat → UInt64} (I : LInv G own h nx q c σ th) (hn : nx ≤ n1) (H1 : HallAt h1 q r.2) (hf : h1 (q + 207) = some (.inl (2, 1, .inr (.inl f)))) (hg : h1 (q + 208) = some (.inl (3, 1, .inr (.inr (.inr (.inl g)))))) (hk : sgOk (c + 1) r.2) (p2 : mPo G own h1 n1 (q + 204) cd z r o2 h2 n2) :
    ∃ own2, LInv G own2 h2 n2 q (c + 1) r.2 (nI (mRes cd z r.1).2) ∧ h2 (q + 207) = some (.inl (2, 1, .inr (.inl f))) ∧ h2 (q + 208) = some (.inl (3, 1, .inr (.inr (.inr (.inl g))))) := by
  obtain ⟨i1, i2, i3, i4, ⟨i5, i6⟩, i7, i8, i9⟩ := I
  obtain ⟨-, own2, F, M2⟩ := p2
  obtain ⟨f1, f2, f3, f4, f5⟩ := F
  have at0 : ∀ b, b < n1 → own b = 0 → h2 b = h1 b := fun b hb h0 => f5 b hb (fun w => w.1 h0)
  have a7 := (at0 (q + 207) (by omega) i5).trans hf
  have a8 := (at0 (q + 208) (by omega) i6).trans hg
  exact ⟨own2, ⟨M2, H1.keep (fun a g1 g2 => at0 a (by omega) (i4 a g2)), hk, fun b hb => (f2 b (by omega)).trans (i4 b hb), ⟨(f2 _ (by omega)).trans i5, (f2 _ (by omega)).trans i6⟩, ⟨f, a7⟩, ⟨g, a8⟩, by omega⟩, a7, a8⟩
theorem law_cmp {i L : Nat} (hi : i ≤ 2560) (hL : L ≤ 2560) : (nI i > nI L - nI 5) ↔ L < i + 5 := by
  have e1 : (nI L - nI 5).toInt = (L : Int) - 5 := by
    rw [Int32.toInt_sub, nI_toInt (by omega), nI_toInt (by omega)]
    rw [Int.bmod_eq_of_le] <;> omega
  show nI L - nI 5 < nI i ↔ _
  rw [Int32.lt_iff_toInt_lt, e1, nI_toInt (by omega)]
  omega
theorem and31 (x : Int32) : ∃ u : Nat, u < 32 ∧ x &&& nI 31 = nI u := by
  refine ⟨(x &&& nI 31).toBitVec.toNat, ?_, ?_⟩
  · rw [Int32.toBitVec_and, BitVec.toNat_and]
    have h1 : x.toBitVec.toNat &&& (nI 31).toBitVec.toNat ≤ (nI 31).toBitVec.toNat := Nat.and_le_right
    have h2 : (nI 31).toBitVec.toNat = 31 := by decide
    omega
  · apply Int32.toBitVec_inj.mp
    show _ = (Int32.ofNat _).toBitVec
    rw [Int32.toBitVec_ofNat']
    simp
theorem LInv.mono {G : aG} {own : Nat → Nat} {h : aH} {nx q c : Nat} {σ : aSg} {th : Int32} (I : LInv G own h nx q c σ th) : LInv G own h nx q (c + 1) σ th :=
  ⟨I.1, I.2.1, I.2.2.1.mono (Nat.le_succ c), I.2.2.2⟩
theorem LInv.D {G : aG} {own : Nat → Nat} {h h1 h2 : aH} {nx n1 n2 q c : Nat} {σ : aSg} {th : Int32} {x : Int64} (I : LInv G own h nx q c σ th) (hn : nx ≤ n1) (o : aOff h h1 q 204) (H1 : HallAt h1 q σ) (D : DgN h1 h2 n1 n2 (q + 204) σ.2.2 x) : LInv G own h2 n2 q (c + 1) σ (nI 0) := by
  have M1 := I.A hn (fun b z _ _ => o b z)
  have M2 := D.M I.2.2.1.1 I.2.2.1.2.1 M1
  obtain ⟨i1, i2, i3, i4, i56, ⟨f, i7⟩, ⟨g, i8⟩, i9⟩ := I
  exact ⟨M2, H1.keep (fun a g1 g2 => D.2.2 a (by omega) (by omega)), i3.mono (Nat.le_succ c), i4, i56, ⟨f, (D.2.2 _ (by omega) (by omega)).trans ((o _ (Or.inr (by omega))).trans i7)⟩, ⟨g, (D.2.2 _ (by omega) (by omega)).trans ((o _ (Or.inr (by omega))).trans i8)⟩, by have := D.1; omega⟩
