/-! ===== methods with a table of handlers ===== -/
section AHAND
def awsH (mm : aM) (tb : List (Nat × Nat × Nat × Nat)) : List Cond := .codeWith mm.1 mm.2.1 mm.2.2.1 mm.2.2.2 tb :: aWd
def aMetH (G : aG) (mm : aM) (tb : List (Nat × Nat × Nat × Nat)) (k mc ms : Nat) (as : List Value) (h : aH) (nx : Nat) (po : aPost) : Prop := ∀ l : Launch, l.stackTraces = false → vx_Met l mm.1 (awsH mm tb) (aRoom k mc ms) (aPc G as h nx) (aQc G po) (aXC G po) mc ms (aBs G)
theorem aMetH_of {G : aG} {mm : aM} {tb : List (Nat × Nat × Nat × Nat)} {k mc ms : Nat} {as : List Value} {h : aH} {nx : Nat} {po : aPost} (hy : plainName mm.1.cls = true) (hn : (lg_sl as).length ≤ mm.2.2.1)
    (body : aw G mm tb (aRoom k mc ms) (aEnd G po mc ms) 0 0 h nx 0 (lv_args 0 as) []) : aMetH G mm tb k mc ms as h nx po := by
  intro l hl
  refine vx_ofWH (cc := mm.2.1) (maxL := mm.2.2.1) (ret := mm.2.2.2) (hh := tb) (ws' := aWd) hy rfl ?_
  intro p e s m args below meth c s₁ B hml hp
  obtain ⟨rfl, hR, hz, hK⟩ := hp
  have hts := atoms_spec (ws := awsH mm tb) B.pre
  have ht' : c.exceptionTable.toList = tableOf tb := vx_table (x := mm.1) B (hts _ List.mem_cons_self)
  have he := lv_entry as (n := mm.2.2.1) hn
  rw [lg_entry_eq]
  exact body p l e s m _ below meth c s.heap [] _ ⟨B.exec, B.bytes, hml, findClass_of_methodNamed B.named, fun w hw => hts w (List.mem_cons_of_mem _ hw), B.returns, B.notSynchronized, ht', hK, hl, (name_of_methodNamed B.named B.method).1⟩ hR hz va_S.rf he
def aOkH (mm : aM) (tb : List (Nat × Nat × Nat × Nat)) (n : Nat) : Prop := Cond.codeWith mm.1 mm.2.1 mm.2.2.1 mm.2.2.2 tb ∈ lw_tbl ∧ Cond.initialized mm.1.cls ∈ lw_tbl ∧ (mm.1.cls ≠ "java/lang/invoke/MethodHandle" ∧ mm.1.cls ≠ "java/lang/invoke/VarHandle" ∧ (parseMethodDescriptor mm.1.desc).map (fun d => d.parameters.length) = some n) ∧ Cond.static mm.1 ∈ lw_tbl
theorem aGoodH {mm : aM} {tb : List (Nat × Nat × Nat × Nat)} {n idx : Nat} {own : String} (ok : aOkH mm tb n) (hl : Cond.methodLink own idx mm.1 ∈ lw_tbl) : GoodIn aWd (va_wsS own idx mm.1 (awsH mm tb)) := fun w hw => by
  unfold va_wsS at hw
  simp only [List.cons_append, List.nil_append, List.mem_cons] at hw
  rcases hw with rfl | rfl | rfl | hw
  · exact ⟨aWd_of hl rfl, good_of_word rfl⟩
  · exact ⟨aWd_of ok.2.2.2 rfl, good_of_word rfl⟩
  · exact ⟨aWd_of ok.2.1 rfl, good_of_word rfl⟩
  · unfold awsH at hw
    rcases List.mem_cons.mp hw with rfl | hw
    · exact ⟨aWd_of ok.1 rfl, good_of_word rfl⟩
    · exact ⟨hw, aWd_good w hw⟩
variable {G : aG} {mm mm' : aM} {tb tb' : List (Nat × Nat × Nat × Nat)} {R : Room} {Qf : aQf} {cells slots mc ms k' : Nat} {h : aH} {nx pc idx n : Nat} {L : aL} {st rest As : List Value} {po : aPost} {b : Nat}
theorem aw_callH (hM : aMetH G mm' tb' k' mc ms As h nx po) (ok : aOkH mm' tb' n) (hl : Cond.methodLink mm.1.cls idx mm'.1 ∈ lw_tbl) (hn : As.length = n) (hst : st = As.reverse ++ rest) (hcat : (rest.map fun v => v.category).sum ≤ 8) (hd : decode mm.2.1 pc = .ok (.invokestatic idx, 3)) (hR : k' + 1 ≤ R.frames ∧ 8 + (mm'.2.2.1 + 11) + 40 * k' ≤ R.locals) (hcl : cells + mc ≤ R.cells ∧ slots + ms ≤ R.slots)
    (kk : ∀ (v : Option Value) (h1 : aH) (n1 : Nat), po (.inl v) h1 n1 → nx ≤ n1 → aw G mm tb R Qf (cells + mc) (slots + ms) h1 n1 (pc + 3) L (v.toList ++ rest))
    (kx : ∀ (E : String) (h1 : aH) (n1 : Nat), po (.inr E) h1 n1 → nx ≤ n1 → awx G mm tb R Qf (cells + mc) (slots + ms) h1 n1 pc L E) : aw G mm tb R Qf cells slots h nx pc L st := by
  intro p l e s m args below meth c H locs ls C RR Z S V
  have C0 := id C
  obtain ⟨hx, hb, hml, hown, hts, hr, hlk, htb, hK, hl2, hnm0⟩ := C0
  exact aw_ofRun (vx_runSX (As := As) (rest := rest) ⟨hx, hb, hml, hown, hts⟩ (hM l hl2) (vx_cwSW n hts (aGoodH ok hl) rfl rfl rfl ok.2.2.1 hR) ⟨aPc_blind, aPc_at hK RR Z S⟩ rfl hn V.1 hst (lv_room hcat) hd hcl) C Z S V kk kx
/-- caught here, past the rows ahead, that name other classes -/
theorem awx_catch {E name : String} (pre : List ExceptionTableEntry) (x : ExceptionTableEntry) (suf : List ExceptionTableEntry) (hsplit : tableOf tb = pre ++ x :: suf) (hpass : ∀ z ∈ pre, z.catchType ≠ 0 ∧ ∃ nm : String, Cond.classLink mm.1.cls z.catchType nm ∈ lw_tbl ∧ (E, nm) ∈ aNcs) (hx : covers x pc = true) (h0 : x.catchType ≠ 0) (hlink : Cond.classLink mm.1.cls x.catchType name ∈ lw_tbl) (hcast : Cond.castable E name ∈ lw_tbl)
    (kk : ∀ q : Nat, aw G mm tb R Qf cells slots h nx x.handlerPc L [.ref q]) : awx G mm tb R Qf cells slots h nx pc L E := by
  intro p l e s m args below meth c H locs ls rest q ce C RR Z S V hce hcv hcl
  have C0 := id C
  obtain ⟨hX, hb, hml, hown, hts, hr, hlk, htb, hK, hl2, hnm0⟩ := C0
  exact vx_catch hown pre x suf (htb.trans hsplit) (fun z hz => Or.inr ⟨(hpass z hz).1, by
    obtain ⟨-, nm, h1, h2⟩ := hpass z hz
    exact ⟨nm, hts _ (aWd_of h1 rfl), hK.2.2.2.2.2.2.2.2.2.2 _ h2⟩⟩) hx h0 (hts _ (aWd_of hlink rfl)) (va_Nw.use (aNk_ot rfl) (hK.2.1 _ (aWn_of hcast rfl))) hce hcv hcl (kk q p l e s m args below meth c H locs ls C RR Z S V)
end AHAND
/-- how a helper of the law ends: the answer in out[0], its number -/
def lPo (h : aH) (q a nx : Nat) (cd : String → Nat) (r : aRs) : aPost := fun o h1 n1 =>
  o = .inl (some (.int (nI (mRes cd (.int 0) r.1).2))) ∧ nx ≤ n1 ∧ HallAt h1 q r.2 ∧ (∀ b, (b < q ∨ q + 204 ≤ b) → b ≠ a → h1 b = h b) ∧ ∃ f : Nat → Int64, h1 a = some (.inl (2, 1, .inr (.inl f))) ∧ ∀ v : Int32, r.1 = .inl (some (.int v)) → f 0 = v.toInt64
def lPoD (h : aH) (q a nx : Nat) (cd : String → Nat) (r : aRs) : aPost := fun o h1 n1 =>
  o = .inl (some (.int (nI (mRes cd (.int 0) r.1).2))) ∧ nx ≤ n1 ∧ HallAt h1 q r.2 ∧ (∀ b, (b < q ∨ q + 204 ≤ b) → b ≠ a → h1 b = h b) ∧ ∃ f : Nat → UInt64, h1 a = some (.inl (3, 1, .inr (.inr (.inr (.inl f))))) ∧ ∀ v : UInt64, r.1 = .inl (some (.double v)) → f 0 = v
