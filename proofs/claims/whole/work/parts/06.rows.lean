/-! ===== ROWS of the judgement ===== -/
def aGet : aL → Nat → Option Value
  | [], _ => none
  | q :: l, i => match Nat.beq q.1 i with
    | true => some q.2
    | false => aGet l i
theorem aGet_mem {L : aL} {i : Nat} {v : Value} : aGet L i = some v → (i, v) ∈ L := by
  induction L with
  | nil => intro h; cases h
  | cons q l ih =>
    intro h
    unfold aGet at h
    cases hb : Nat.beq q.1 i with
    | true =>
      rw [hb] at h
      have e1 : q.1 = i := Nat.eq_of_beq_eq_true hb
      have e2 : q.2 = v := Option.some.inj h
      rw [← e1, ← e2]
      exact List.mem_cons_self
    | false =>
      rw [hb] at h
      exact List.mem_cons_of_mem _ (ih h)
theorem aGet_at {ls : Array Slot} {nL : Nat} {L : aL} (V : lv_has ls nL L) {i : Nat} {v : Value} (h : aGet L i = some v) : ls[i]? = some (.val v) := V.2.2 (i, v) (aGet_mem h)
theorem aGet_ix {L : aL} {i : Nat} {v : Value} (h : aGet L i = some v) : ∃ k : Nat, L[k]? = some (i, v) := List.getElem?_of_mem (aGet_mem h)
def aSet1 (L : aL) (i : Nat) (v : Value) : aL := (i, v) :: L.filter (fun q => !(q.1 == i) && !(q.1 + 1 == i && q.2.category == 2))
def aSet2 (L : aL) (i : Nat) (v : Value) : aL := (i, v) :: L.filter (fun q => !(q.1 == i) && (!(q.1 == i + 1) && !(q.1 + 1 == i && q.2.category == 2)))
section AROWS
variable {G : aG} {mm : aM} {tb : List (Nat × Nat × Nat × Nat)} {R : Room} {Qf : aQf} {cells slots : Nat} {h : aH} {nx pc : Nat} {L : aL} {st : List Value}
theorem aw_iload_n {k : Fin 4} {x : Int32} (hd : decode mm.2.1 pc = .ok (.iload_n k, 1)) (hl : aGet L (k : Nat) = some (.int x)) (kk : aw G mm tb R Qf cells slots h nx (pc + 1) L (.int x :: st)) : aw G mm tb R Qf cells slots h nx pc L st := by
  intro p l e s m args below meth c H locs ls C RR Z S V
  exact lv_iload_n C.1 C.2.1 hd rfl (aGet_at V hl) (kk p l e s m args below meth c H locs ls C RR Z S V)
theorem aw_iload {i : Nat} {x : Int32} (hd : decode mm.2.1 pc = .ok (.iload i, 2)) (hl : aGet L i = some (.int x)) (kk : aw G mm tb R Qf cells slots h nx (pc + 2) L (.int x :: st)) : aw G mm tb R Qf cells slots h nx pc L st := by
  intro p l e s m args below meth c H locs ls C RR Z S V
  exact lv_iload C.1 C.2.1 hd (aGet_at V hl) (kk p l e s m args below meth c H locs ls C RR Z S V)
theorem aw_lload_n {k : Fin 4} {x : Int64} (hd : decode mm.2.1 pc = .ok (.lload_n k, 1)) (hl : aGet L (k : Nat) = some (.long x)) (kk : aw G mm tb R Qf cells slots h nx (pc + 1) L (.long x :: st)) : aw G mm tb R Qf cells slots h nx pc L st := by
  intro p l e s m args below meth c H locs ls C RR Z S V
  exact lv_lload_n C.1 C.2.1 hd rfl (aGet_at V hl) (kk p l e s m args below meth c H locs ls C RR Z S V)
theorem aw_lload {i : Nat} {x : Int64} (hd : decode mm.2.1 pc = .ok (.lload i, 2)) (hl : aGet L i = some (.long x)) (kk : aw G mm tb R Qf cells slots h nx (pc + 2) L (.long x :: st)) : aw G mm tb R Qf cells slots h nx pc L st := by
  intro p l e s m args below meth c H locs ls C RR Z S V
  exact lv_lload C.1 C.2.1 hd (aGet_at V hl) (kk p l e s m args below meth c H locs ls C RR Z S V)
theorem aw_dload_n {k : Fin 4} {x : UInt64} (hd : decode mm.2.1 pc = .ok (.dload_n k, 1)) (hl : aGet L (k : Nat) = some (.double x)) (kk : aw G mm tb R Qf cells slots h nx (pc + 1) L (.double x :: st)) : aw G mm tb R Qf cells slots h nx pc L st := by
  intro p l e s m args below meth c H locs ls C RR Z S V
  exact lv_dload_n C.1 C.2.1 hd rfl (aGet_at V hl) (kk p l e s m args below meth c H locs ls C RR Z S V)
theorem aw_dload {i : Nat} {x : UInt64} (hd : decode mm.2.1 pc = .ok (.dload i, 2)) (hl : aGet L i = some (.double x)) (kk : aw G mm tb R Qf cells slots h nx (pc + 2) L (.double x :: st)) : aw G mm tb R Qf cells slots h nx pc L st := by
  intro p l e s m args below meth c H locs ls C RR Z S V
  exact lv_dload C.1 C.2.1 hd (aGet_at V hl) (kk p l e s m args below meth c H locs ls C RR Z S V)
theorem aw_aload_n {k : Fin 4} {x : Nat} (hd : decode mm.2.1 pc = .ok (.aload_n k, 1)) (hl : aGet L (k : Nat) = some (.ref x)) (kk : aw G mm tb R Qf cells slots h nx (pc + 1) L (.ref x :: st)) : aw G mm tb R Qf cells slots h nx pc L st := by
  intro p l e s m args below meth c H locs ls C RR Z S V
  exact lv_aload_n C.1 C.2.1 hd rfl (aGet_at V hl) (kk p l e s m args below meth c H locs ls C RR Z S V)
theorem aw_aload {i : Nat} {x : Nat} (hd : decode mm.2.1 pc = .ok (.aload i, 2)) (hl : aGet L i = some (.ref x)) (kk : aw G mm tb R Qf cells slots h nx (pc + 2) L (.ref x :: st)) : aw G mm tb R Qf cells slots h nx pc L st := by
  intro p l e s m args below meth c H locs ls C RR Z S V
  exact lv_aload C.1 C.2.1 hd (aGet_at V hl) (kk p l e s m args below meth c H locs ls C RR Z S V)
theorem aw_aload_nN {k : Fin 4} (hd : decode mm.2.1 pc = .ok (.aload_n k, 1)) (hl : aGet L (k : Nat) = some .null) (kk : aw G mm tb R Qf cells slots h nx (pc + 1) L (.null :: st)) : aw G mm tb R Qf cells slots h nx pc L st := by
  intro p l e s m args below meth c H locs ls C RR Z S V
  exact lv_aload_nN C.1 C.2.1 hd rfl (aGet_at V hl) (kk p l e s m args below meth c H locs ls C RR Z S V)
theorem aw_aloadN {i : Nat} (hd : decode mm.2.1 pc = .ok (.aload i, 2)) (hl : aGet L i = some .null) (kk : aw G mm tb R Qf cells slots h nx (pc + 2) L (.null :: st)) : aw G mm tb R Qf cells slots h nx pc L st := by
  intro p l e s m args below meth c H locs ls C RR Z S V
  exact lv_aloadN C.1 C.2.1 hd (aGet_at V hl) (kk p l e s m args below meth c H locs ls C RR Z S V)
theorem aw_istore_n {k : Fin 4} {x : Int32} {L' : aL} (hd : decode mm.2.1 pc = .ok (.istore_n k, 1)) (hn : (k : Nat) < mm.2.2.1) (hl : aSet1 L (k : Nat) (.int x) = L') (kk : aw G mm tb R Qf cells slots h nx (pc + 1) L' st) : aw G mm tb R Qf cells slots h nx pc L (.int x :: st) := by
  intro p l e s m args below meth c H locs ls C RR Z S V
  exact lv_istore_n C.1 C.2.1 hd rfl V hn hl (fun ls V => kk p l e s m args below meth c H locs ls C RR Z S V)
theorem aw_istore {i : Nat} {x : Int32} {L' : aL} (hd : decode mm.2.1 pc = .ok (.istore i, 2)) (hn : i < mm.2.2.1) (hl : aSet1 L i (.int x) = L') (kk : aw G mm tb R Qf cells slots h nx (pc + 2) L' st) : aw G mm tb R Qf cells slots h nx pc L (.int x :: st) := by
  intro p l e s m args below meth c H locs ls C RR Z S V
  exact lv_istore C.1 C.2.1 hd V hn hl (fun ls V => kk p l e s m args below meth c H locs ls C RR Z S V)
theorem aw_lstore_n {k : Fin 4} {x : Int64} {L' : aL} (hd : decode mm.2.1 pc = .ok (.lstore_n k, 1)) (hn : (k : Nat) + 1 < mm.2.2.1) (hl : aSet2 L (k : Nat) (.long x) = L') (kk : aw G mm tb R Qf cells slots h nx (pc + 1) L' st) : aw G mm tb R Qf cells slots h nx pc L (.long x :: st) := by
  intro p l e s m args below meth c H locs ls C RR Z S V
  exact lv_lstore_n C.1 C.2.1 hd rfl V hn hl (fun ls V => kk p l e s m args below meth c H locs ls C RR Z S V)
theorem aw_lstore {i : Nat} {x : Int64} {L' : aL} (hd : decode mm.2.1 pc = .ok (.lstore i, 2)) (hn : i + 1 < mm.2.2.1) (hl : aSet2 L i (.long x) = L') (kk : aw G mm tb R Qf cells slots h nx (pc + 2) L' st) : aw G mm tb R Qf cells slots h nx pc L (.long x :: st) := by
  intro p l e s m args below meth c H locs ls C RR Z S V
  exact lv_lstore C.1 C.2.1 hd V hn hl (fun ls V => kk p l e s m args below meth c H locs ls C RR Z S V)
theorem aw_dstore_n {k : Fin 4} {x : UInt64} {L' : aL} (hd : decode mm.2.1 pc = .ok (.dstore_n k, 1)) (hn : (k : Nat) + 1 < mm.2.2.1) (hl : aSet2 L (k : Nat) (.double x) = L') (kk : aw G mm tb R Qf cells slots h nx (pc + 1) L' st) : aw G mm tb R Qf cells slots h nx pc L (.double x :: st) := by
  intro p l e s m args below meth c H locs ls C RR Z S V
  exact lv_dstore_n C.1 C.2.1 hd rfl V hn hl (fun ls V => kk p l e s m args below meth c H locs ls C RR Z S V)
theorem aw_dstore {i : Nat} {x : UInt64} {L' : aL} (hd : decode mm.2.1 pc = .ok (.dstore i, 2)) (hn : i + 1 < mm.2.2.1) (hl : aSet2 L i (.double x) = L') (kk : aw G mm tb R Qf cells slots h nx (pc + 2) L' st) : aw G mm tb R Qf cells slots h nx pc L (.double x :: st) := by
  intro p l e s m args below meth c H locs ls C RR Z S V
  exact lv_dstore C.1 C.2.1 hd V hn hl (fun ls V => kk p l e s m args below meth c H locs ls C RR Z S V)
theorem aw_astore_n {k : Fin 4} {x : Nat} {L' : aL} (hd : decode mm.2.1 pc = .ok (.astore_n k, 1)) (hn : (k : Nat) < mm.2.2.1) (hl : aSet1 L (k : Nat) (.ref x) = L') (kk : aw G mm tb R Qf cells slots h nx (pc + 1) L' st) : aw G mm tb R Qf cells slots h nx pc L (.ref x :: st) := by
  intro p l e s m args below meth c H locs ls C RR Z S V
  exact lv_astore_n C.1 C.2.1 hd rfl V hn hl (fun ls V => kk p l e s m args below meth c H locs ls C RR Z S V)
theorem aw_astore {i : Nat} {x : Nat} {L' : aL} (hd : decode mm.2.1 pc = .ok (.astore i, 2)) (hn : i < mm.2.2.1) (hl : aSet1 L i (.ref x) = L') (kk : aw G mm tb R Qf cells slots h nx (pc + 2) L' st) : aw G mm tb R Qf cells slots h nx pc L (.ref x :: st) := by
  intro p l e s m args below meth c H locs ls C RR Z S V
  exact lv_astore C.1 C.2.1 hd V hn hl (fun ls V => kk p l e s m args below meth c H locs ls C RR Z S V)
theorem aw_astore_nN {k : Fin 4} {L' : aL} (hd : decode mm.2.1 pc = .ok (.astore_n k, 1)) (hn : (k : Nat) < mm.2.2.1) (hl : aSet1 L (k : Nat) .null = L') (kk : aw G mm tb R Qf cells slots h nx (pc + 1) L' st) : aw G mm tb R Qf cells slots h nx pc L (.null :: st) := by
  intro p l e s m args below meth c H locs ls C RR Z S V
  exact lv_astore_nN C.1 C.2.1 hd rfl V hn hl (fun ls V => kk p l e s m args below meth c H locs ls C RR Z S V)
theorem aw_astoreN {i : Nat} {L' : aL} (hd : decode mm.2.1 pc = .ok (.astore i, 2)) (hn : i < mm.2.2.1) (hl : aSet1 L i .null = L') (kk : aw G mm tb R Qf cells slots h nx (pc + 2) L' st) : aw G mm tb R Qf cells slots h nx pc L (.null :: st) := by
  intro p l e s m args below meth c H locs ls C RR Z S V
  exact lv_astoreN C.1 C.2.1 hd V hn hl (fun ls V => kk p l e s m args below meth c H locs ls C RR Z S V)
theorem aw_iinc {i : Nat} {n : Int} {x v : Int32} {L' : aL} (hd : decode mm.2.1 pc = .ok (.iinc i n, 3)) (hg : aGet L i = some (.int x)) (hv : x + Int32.ofInt n = v) (hn : i < mm.2.2.1) (hl : aSet1 L i (.int v) = L') (kk : aw G mm tb R Qf cells slots h nx (pc + 3) L' st) : aw G mm tb R Qf cells slots h nx pc L st := by
  intro p l e s m args below meth c H locs ls C RR Z S V
  obtain ⟨k, hk⟩ := aGet_ix hg
  exact lv_iinc C.1 C.2.1 hd V hk hv hn hl (fun ls V => kk p l e s m args below meth c H locs ls C RR Z S V)
theorem aw_iconst {n : Int} {v : Int32} (hd : decode mm.2.1 pc = .ok (.iconst n, 1)) (hv : Int32.ofInt n = v) (kk : aw G mm tb R Qf cells slots h nx (pc + 1) L (.int v :: st)) : aw G mm tb R Qf cells slots h nx pc L st := by
  intro p l e s m args below meth c H locs ls C RR Z S V
  exact lv_iconst C.1 C.2.1 hd hv (kk p l e s m args below meth c H locs ls C RR Z S V)
theorem aw_bipush {n : Int} {v : Int32} (hd : decode mm.2.1 pc = .ok (.bipush n, 2)) (hv : (Int8.ofInt n).toInt32 = v) (kk : aw G mm tb R Qf cells slots h nx (pc + 2) L (.int v :: st)) : aw G mm tb R Qf cells slots h nx pc L st := by
  intro p l e s m args below meth c H locs ls C RR Z S V
  exact lv_bipush C.1 C.2.1 hd hv (kk p l e s m args below meth c H locs ls C RR Z S V)
theorem aw_sipush {n : Int} {v : Int32} (hd : decode mm.2.1 pc = .ok (.sipush n, 3)) (hv : (Int16.ofInt n).toInt32 = v) (kk : aw G mm tb R Qf cells slots h nx (pc + 3) L (.int v :: st)) : aw G mm tb R Qf cells slots h nx pc L st := by
  intro p l e s m args below meth c H locs ls C RR Z S V
  exact lv_sipush C.1 C.2.1 hd hv (kk p l e s m args below meth c H locs ls C RR Z S V)
theorem aw_lconst {n : Fin 2} {v : Int64} (hd : decode mm.2.1 pc = .ok (.lconst n, 1)) (hv : Int64.ofNat (n : Nat) = v) (kk : aw G mm tb R Qf cells slots h nx (pc + 1) L (.long v :: st)) : aw G mm tb R Qf cells slots h nx pc L st := by
  intro p l e s m args below meth c H locs ls C RR Z S V
  exact lv_lconst C.1 C.2.1 hd hv (kk p l e s m args below meth c H locs ls C RR Z S V)
theorem aw_dconst0 (hd : decode mm.2.1 pc = .ok (.dconst 0, 1)) (kk : aw G mm tb R Qf cells slots h nx (pc + 1) L (.double FP.dconst0 :: st)) : aw G mm tb R Qf cells slots h nx pc L st := by
  intro p l e s m args below meth c H locs ls C RR Z S V
  exact lv_dconst0 C.1 C.2.1 hd (kk p l e s m args below meth c H locs ls C RR Z S V)
theorem aw_dconst1 (hd : decode mm.2.1 pc = .ok (.dconst 1, 1)) (kk : aw G mm tb R Qf cells slots h nx (pc + 1) L (.double FP.dconst1 :: st)) : aw G mm tb R Qf cells slots h nx pc L st := by
  intro p l e s m args below meth c H locs ls C RR Z S V
  exact lv_dconst1 C.1 C.2.1 hd (kk p l e s m args below meth c H locs ls C RR Z S V)
theorem aw_null (hd : decode mm.2.1 pc = .ok (.aconst_null, 1)) (kk : aw G mm tb R Qf cells slots h nx (pc + 1) L (.null :: st)) : aw G mm tb R Qf cells slots h nx pc L st := by
  intro p l e s m args below meth c H locs ls C RR Z S V
  exact lv_null C.1 C.2.1 hd (kk p l e s m args below meth c H locs ls C RR Z S V)
theorem aw_ldc {i : Nat} {v : Int32} (hd : decode mm.2.1 pc = .ok (.ldc i, 2)) (hc : Cond.constant mm.1.cls i v ∈ lw_tbl) (kk : aw G mm tb R Qf cells slots h nx (pc + 2) L (.int v :: st)) : aw G mm tb R Qf cells slots h nx pc L st := by
  intro p l e s m args below meth c H locs ls C RR Z S V
  exact lv_ldc C.1 C.2.1 C.2.2.2.1 (C.2.2.2.2.1 _ (aWd_of hc rfl)) hd (kk p l e s m args below meth c H locs ls C RR Z S V)
theorem aw_ldcw {i : Nat} {v : Int32} (hd : decode mm.2.1 pc = .ok (.ldc_w i, 3)) (hc : Cond.constant mm.1.cls i v ∈ lw_tbl) (kk : aw G mm tb R Qf cells slots h nx (pc + 3) L (.int v :: st)) : aw G mm tb R Qf cells slots h nx pc L st := by
  intro p l e s m args below meth c H locs ls C RR Z S V
  exact lv_ldcw C.1 C.2.1 C.2.2.2.1 (C.2.2.2.2.1 _ (aWd_of hc rfl)) hd (kk p l e s m args below meth c H locs ls C RR Z S V)
theorem aw_ldc2 {i : Nat} {v : Int64} (hd : decode mm.2.1 pc = .ok (.ldc2_w i, 3)) (hc : Cond.constantLong mm.1.cls i v ∈ lw_tbl) (kk : aw G mm tb R Qf cells slots h nx (pc + 3) L (.long v :: st)) : aw G mm tb R Qf cells slots h nx pc L st := by
  intro p l e s m args below meth c H locs ls C RR Z S V
  exact lv_ldc2 C.1 C.2.1 C.2.2.2.1 (C.2.2.2.2.1 _ (aWd_of hc rfl)) hd (kk p l e s m args below meth c H locs ls C RR Z S V)
theorem aw_iadd {x y : Int32} (hd : decode mm.2.1 pc = .ok (.iadd, 1)) (kk : aw G mm tb R Qf cells slots h nx (pc + 1) L (.int (x + y) :: st)) : aw G mm tb R Qf cells slots h nx pc L (.int y :: .int x :: st) := by
  intro p l e s m args below meth c H locs ls C RR Z S V
  exact lv_iadd C.1 C.2.1 hd (kk p l e s m args below meth c H locs ls C RR Z S V)
theorem aw_isub {x y : Int32} (hd : decode mm.2.1 pc = .ok (.isub, 1)) (kk : aw G mm tb R Qf cells slots h nx (pc + 1) L (.int (x - y) :: st)) : aw G mm tb R Qf cells slots h nx pc L (.int y :: .int x :: st) := by
  intro p l e s m args below meth c H locs ls C RR Z S V
  exact lv_isub C.1 C.2.1 hd (kk p l e s m args below meth c H locs ls C RR Z S V)
theorem aw_imul {x y : Int32} (hd : decode mm.2.1 pc = .ok (.imul, 1)) (kk : aw G mm tb R Qf cells slots h nx (pc + 1) L (.int (x * y) :: st)) : aw G mm tb R Qf cells slots h nx pc L (.int y :: .int x :: st) := by
  intro p l e s m args below meth c H locs ls C RR Z S V
  exact lv_imul C.1 C.2.1 hd (kk p l e s m args below meth c H locs ls C RR Z S V)
theorem aw_iand {x y : Int32} (hd : decode mm.2.1 pc = .ok (.iand, 1)) (kk : aw G mm tb R Qf cells slots h nx (pc + 1) L (.int (x &&& y) :: st)) : aw G mm tb R Qf cells slots h nx pc L (.int y :: .int x :: st) := by
  intro p l e s m args below meth c H locs ls C RR Z S V
  exact lv_iand C.1 C.2.1 hd (kk p l e s m args below meth c H locs ls C RR Z S V)
theorem aw_ior {x y : Int32} (hd : decode mm.2.1 pc = .ok (.ior, 1)) (kk : aw G mm tb R Qf cells slots h nx (pc + 1) L (.int (x ||| y) :: st)) : aw G mm tb R Qf cells slots h nx pc L (.int y :: .int x :: st) := by
  intro p l e s m args below meth c H locs ls C RR Z S V
  exact lv_ior C.1 C.2.1 hd (kk p l e s m args below meth c H locs ls C RR Z S V)
theorem aw_ixor {x y : Int32} (hd : decode mm.2.1 pc = .ok (.ixor, 1)) (kk : aw G mm tb R Qf cells slots h nx (pc + 1) L (.int (x ^^^ y) :: st)) : aw G mm tb R Qf cells slots h nx pc L (.int y :: .int x :: st) := by
  intro p l e s m args below meth c H locs ls C RR Z S V
  exact lv_ixor C.1 C.2.1 hd (kk p l e s m args below meth c H locs ls C RR Z S V)
theorem aw_ishl {x y : Int32} (hd : decode mm.2.1 pc = .ok (.ishl, 1)) (kk : aw G mm tb R Qf cells slots h nx (pc + 1) L (.int (x <<< (y &&& 31)) :: st)) : aw G mm tb R Qf cells slots h nx pc L (.int y :: .int x :: st) := by
  intro p l e s m args below meth c H locs ls C RR Z S V
  exact lv_ishl C.1 C.2.1 hd (kk p l e s m args below meth c H locs ls C RR Z S V)
theorem aw_ishr {x y : Int32} (hd : decode mm.2.1 pc = .ok (.ishr, 1)) (kk : aw G mm tb R Qf cells slots h nx (pc + 1) L (.int (x >>> (y &&& 31)) :: st)) : aw G mm tb R Qf cells slots h nx pc L (.int y :: .int x :: st) := by
  intro p l e s m args below meth c H locs ls C RR Z S V
  exact lv_ishr C.1 C.2.1 hd (kk p l e s m args below meth c H locs ls C RR Z S V)
theorem aw_iushr {x y v : Int32} (hd : decode mm.2.1 pc = .ok (.iushr, 1)) (hv : (x.toUInt32 >>> (y.toUInt32 &&& Int32.toUInt32 31)).toInt32 = v) (kk : aw G mm tb R Qf cells slots h nx (pc + 1) L (.int v :: st)) : aw G mm tb R Qf cells slots h nx pc L (.int y :: .int x :: st) := by
  intro p l e s m args below meth c H locs ls C RR Z S V
  exact lv_iushr C.1 C.2.1 hd hv (kk p l e s m args below meth c H locs ls C RR Z S V)
theorem aw_ineg {x : Int32} (hd : decode mm.2.1 pc = .ok (.ineg, 1)) (kk : aw G mm tb R Qf cells slots h nx (pc + 1) L (.int (-x) :: st)) : aw G mm tb R Qf cells slots h nx pc L (.int x :: st) := by
  intro p l e s m args below meth c H locs ls C RR Z S V
  exact lv_ineg C.1 C.2.1 hd (kk p l e s m args below meth c H locs ls C RR Z S V)
theorem aw_idiv {x y : Int32} (hd : decode mm.2.1 pc = .ok (.idiv, 1)) (hne : ¬ y = 0) (kk : aw G mm tb R Qf cells slots h nx (pc + 1) L (.int (x / y) :: st)) : aw G mm tb R Qf cells slots h nx pc L (.int y :: .int x :: st) := by
  intro p l e s m args below meth c H locs ls C RR Z S V
  exact lv_idiv C.1 C.2.1 hd hne (kk p l e s m args below meth c H locs ls C RR Z S V)
theorem aw_irem {x y : Int32} (hd : decode mm.2.1 pc = .ok (.irem, 1)) (hne : ¬ y = 0) (kk : aw G mm tb R Qf cells slots h nx (pc + 1) L (.int (x - x / y * y) :: st)) : aw G mm tb R Qf cells slots h nx pc L (.int y :: .int x :: st) := by
  intro p l e s m args below meth c H locs ls C RR Z S V
  exact lv_irem C.1 C.2.1 hd hne (kk p l e s m args below meth c H locs ls C RR Z S V)
theorem aw_ladd {x y : Int64} (hd : decode mm.2.1 pc = .ok (.ladd, 1)) (kk : aw G mm tb R Qf cells slots h nx (pc + 1) L (.long (x + y) :: st)) : aw G mm tb R Qf cells slots h nx pc L (.long y :: .long x :: st) := by
  intro p l e s m args below meth c H locs ls C RR Z S V
  exact lv_ladd C.1 C.2.1 hd (kk p l e s m args below meth c H locs ls C RR Z S V)
theorem aw_lmul {x y : Int64} (hd : decode mm.2.1 pc = .ok (.lmul, 1)) (kk : aw G mm tb R Qf cells slots h nx (pc + 1) L (.long (x * y) :: st)) : aw G mm tb R Qf cells slots h nx pc L (.long y :: .long x :: st) := by
  intro p l e s m args below meth c H locs ls C RR Z S V
  exact lv_lmul C.1 C.2.1 hd (kk p l e s m args below meth c H locs ls C RR Z S V)
theorem aw_i2l {x : Int32} (hd : decode mm.2.1 pc = .ok (.i2l, 1)) (kk : aw G mm tb R Qf cells slots h nx (pc + 1) L (.long x.toInt64 :: st)) : aw G mm tb R Qf cells slots h nx pc L (.int x :: st) := by
  intro p l e s m args below meth c H locs ls C RR Z S V
  exact lv_i2l C.1 C.2.1 hd rfl (kk p l e s m args below meth c H locs ls C RR Z S V)
theorem aw_lcmp {x y : Int64} (hd : decode mm.2.1 pc = .ok (.lcmp, 1)) (kk : aw G mm tb R Qf cells slots h nx (pc + 1) L (.int (lg_cmp x y) :: st)) : aw G mm tb R Qf cells slots h nx pc L (.long y :: .long x :: st) := by
  intro p l e s m args below meth c H locs ls C RR Z S V
  exact W.lcmp C.1 C.2.1 hd (kk p l e s m args below meth c H locs ls C RR Z S V)
theorem aw_dmul {x y : UInt64} (hd : decode mm.2.1 pc = .ok (.dmul, 1)) (hne : vf_n64 (FP.dmul x y)) (kk : aw G mm tb R Qf cells slots h nx (pc + 1) L (.double (FP.dmul x y) :: st)) : aw G mm tb R Qf cells slots h nx pc L (.double y :: .double x :: st) := by
  intro p l e s m args below meth c H locs ls C RR Z S V
  exact lv_dmul C.1 C.2.1 hd hne (kk p l e s m args below meth c H locs ls C RR Z S V)
theorem aw_ddiv {x y : UInt64} (hd : decode mm.2.1 pc = .ok (.ddiv, 1)) (hne : vf_n64 (FP.ddiv x y)) (kk : aw G mm tb R Qf cells slots h nx (pc + 1) L (.double (FP.ddiv x y) :: st)) : aw G mm tb R Qf cells slots h nx pc L (.double y :: .double x :: st) := by
  intro p l e s m args below meth c H locs ls C RR Z S V
  exact lv_ddiv C.1 C.2.1 hd hne (kk p l e s m args below meth c H locs ls C RR Z S V)
theorem aw_dup {v : Value} (hd : decode mm.2.1 pc = .ok (.dup, 1)) (hc : v.category = 1) (kk : aw G mm tb R Qf cells slots h nx (pc + 1) L (v :: v :: st)) : aw G mm tb R Qf cells slots h nx pc L (v :: st) := by
  intro p l e s m args below meth c H locs ls C RR Z S V
  exact lv_dup C.1 C.2.1 hd hc (kk p l e s m args below meth c H locs ls C RR Z S V)
theorem aw_pop {v : Value} (hd : decode mm.2.1 pc = .ok (.pop, 1)) (hc : v.category = 1) (kk : aw G mm tb R Qf cells slots h nx (pc + 1) L st) : aw G mm tb R Qf cells slots h nx pc L (v :: st) := by
  intro p l e s m args below meth c H locs ls C RR Z S V
  exact lv_pop C.1 C.2.1 hd hc (kk p l e s m args below meth c H locs ls C RR Z S V)
theorem aw_dup2 {v w : Value} (hd : decode mm.2.1 pc = .ok (.dup2, 1)) (hc : v.category = 1) (hc2 : w.category = 1) (kk : aw G mm tb R Qf cells slots h nx (pc + 1) L (v :: w :: v :: w :: st)) : aw G mm tb R Qf cells slots h nx pc L (v :: w :: st) := by
  intro p l e s m args below meth c H locs ls C RR Z S V
  exact lv_dup2_11 C.1 C.2.1 hd hc hc2 (kk p l e s m args below meth c H locs ls C RR Z S V)
theorem aw_if_eq {x : Int32} {off : Int} {tgt : Nat} (hd : decode mm.2.1 pc = .ok (.ifCond .eq off, 3)) (ht : (pc : Int) + off = (tgt : Int)) (kt : x = 0 → aw G mm tb R Qf cells slots h nx tgt L st) (kf : ¬ x = 0 → aw G mm tb R Qf cells slots h nx (pc + 3) L st) : aw G mm tb R Qf cells slots h nx pc L (.int x :: st) := by
  intro p l e s m args below meth c H locs ls C RR Z S V
  exact lv_if_eq C.1 C.2.1 hd ht (fun z => kt z p l e s m args below meth c H locs ls C RR Z S V) (fun z => kf z p l e s m args below meth c H locs ls C RR Z S V)
theorem aw_icmp_eq {x y : Int32} {off : Int} {tgt : Nat} (hd : decode mm.2.1 pc = .ok (.if_icmp .eq off, 3)) (ht : (pc : Int) + off = (tgt : Int)) (kt : x = y → aw G mm tb R Qf cells slots h nx tgt L st) (kf : ¬ x = y → aw G mm tb R Qf cells slots h nx (pc + 3) L st) : aw G mm tb R Qf cells slots h nx pc L (.int y :: .int x :: st) := by
  intro p l e s m args below meth c H locs ls C RR Z S V
  exact lv_icmp_eq C.1 C.2.1 hd ht (fun z => kt z p l e s m args below meth c H locs ls C RR Z S V) (fun z => kf z p l e s m args below meth c H locs ls C RR Z S V)
theorem aw_if_ne {x : Int32} {off : Int} {tgt : Nat} (hd : decode mm.2.1 pc = .ok (.ifCond .ne off, 3)) (ht : (pc : Int) + off = (tgt : Int)) (kt : ¬ x = 0 → aw G mm tb R Qf cells slots h nx tgt L st) (kf : x = 0 → aw G mm tb R Qf cells slots h nx (pc + 3) L st) : aw G mm tb R Qf cells slots h nx pc L (.int x :: st) := by
  intro p l e s m args below meth c H locs ls C RR Z S V
  exact lv_if_ne C.1 C.2.1 hd ht (fun z => kt z p l e s m args below meth c H locs ls C RR Z S V) (fun z => kf z p l e s m args below meth c H locs ls C RR Z S V)
theorem aw_icmp_ne {x y : Int32} {off : Int} {tgt : Nat} (hd : decode mm.2.1 pc = .ok (.if_icmp .ne off, 3)) (ht : (pc : Int) + off = (tgt : Int)) (kt : ¬ x = y → aw G mm tb R Qf cells slots h nx tgt L st) (kf : x = y → aw G mm tb R Qf cells slots h nx (pc + 3) L st) : aw G mm tb R Qf cells slots h nx pc L (.int y :: .int x :: st) := by
  intro p l e s m args below meth c H locs ls C RR Z S V
  exact lv_icmp_ne C.1 C.2.1 hd ht (fun z => kt z p l e s m args below meth c H locs ls C RR Z S V) (fun z => kf z p l e s m args below meth c H locs ls C RR Z S V)
theorem aw_if_lt {x : Int32} {off : Int} {tgt : Nat} (hd : decode mm.2.1 pc = .ok (.ifCond .lt off, 3)) (ht : (pc : Int) + off = (tgt : Int)) (kt : x < 0 → aw G mm tb R Qf cells slots h nx tgt L st) (kf : ¬ x < 0 → aw G mm tb R Qf cells slots h nx (pc + 3) L st) : aw G mm tb R Qf cells slots h nx pc L (.int x :: st) := by
  intro p l e s m args below meth c H locs ls C RR Z S V
  exact lv_if_lt C.1 C.2.1 hd ht (fun z => kt z p l e s m args below meth c H locs ls C RR Z S V) (fun z => kf z p l e s m args below meth c H locs ls C RR Z S V)
theorem aw_icmp_lt {x y : Int32} {off : Int} {tgt : Nat} (hd : decode mm.2.1 pc = .ok (.if_icmp .lt off, 3)) (ht : (pc : Int) + off = (tgt : Int)) (kt : x < y → aw G mm tb R Qf cells slots h nx tgt L st) (kf : ¬ x < y → aw G mm tb R Qf cells slots h nx (pc + 3) L st) : aw G mm tb R Qf cells slots h nx pc L (.int y :: .int x :: st) := by
  intro p l e s m args below meth c H locs ls C RR Z S V
  exact lv_icmp_lt C.1 C.2.1 hd ht (fun z => kt z p l e s m args below meth c H locs ls C RR Z S V) (fun z => kf z p l e s m args below meth c H locs ls C RR Z S V)
theorem aw_if_ge {x : Int32} {off : Int} {tgt : Nat} (hd : decode mm.2.1 pc = .ok (.ifCond .ge off, 3)) (ht : (pc : Int) + off = (tgt : Int)) (kt : 0 ≤ x → aw G mm tb R Qf cells slots h nx tgt L st) (kf : ¬ 0 ≤ x → aw G mm tb R Qf cells slots h nx (pc + 3) L st) : aw G mm tb R Qf cells slots h nx pc L (.int x :: st) := by
  intro p l e s m args below meth c H locs ls C RR Z S V
  exact lv_if_ge C.1 C.2.1 hd ht (fun z => kt z p l e s m args below meth c H locs ls C RR Z S V) (fun z => kf z p l e s m args below meth c H locs ls C RR Z S V)
theorem aw_icmp_ge {x y : Int32} {off : Int} {tgt : Nat} (hd : decode mm.2.1 pc = .ok (.if_icmp .ge off, 3)) (ht : (pc : Int) + off = (tgt : Int)) (kt : y ≤ x → aw G mm tb R Qf cells slots h nx tgt L st) (kf : ¬ y ≤ x → aw G mm tb R Qf cells slots h nx (pc + 3) L st) : aw G mm tb R Qf cells slots h nx pc L (.int y :: .int x :: st) := by
  intro p l e s m args below meth c H locs ls C RR Z S V
  exact lv_icmp_ge C.1 C.2.1 hd ht (fun z => kt z p l e s m args below meth c H locs ls C RR Z S V) (fun z => kf z p l e s m args below meth c H locs ls C RR Z S V)
theorem aw_if_gt {x : Int32} {off : Int} {tgt : Nat} (hd : decode mm.2.1 pc = .ok (.ifCond .gt off, 3)) (ht : (pc : Int) + off = (tgt : Int)) (kt : 0 < x → aw G mm tb R Qf cells slots h nx tgt L st) (kf : ¬ 0 < x → aw G mm tb R Qf cells slots h nx (pc + 3) L st) : aw G mm tb R Qf cells slots h nx pc L (.int x :: st) := by
  intro p l e s m args below meth c H locs ls C RR Z S V
  exact lv_if_gt C.1 C.2.1 hd ht (fun z => kt z p l e s m args below meth c H locs ls C RR Z S V) (fun z => kf z p l e s m args below meth c H locs ls C RR Z S V)
theorem aw_icmp_gt {x y : Int32} {off : Int} {tgt : Nat} (hd : decode mm.2.1 pc = .ok (.if_icmp .gt off, 3)) (ht : (pc : Int) + off = (tgt : Int)) (kt : y < x → aw G mm tb R Qf cells slots h nx tgt L st) (kf : ¬ y < x → aw G mm tb R Qf cells slots h nx (pc + 3) L st) : aw G mm tb R Qf cells slots h nx pc L (.int y :: .int x :: st) := by
  intro p l e s m args below meth c H locs ls C RR Z S V
  exact lv_icmp_gt C.1 C.2.1 hd ht (fun z => kt z p l e s m args below meth c H locs ls C RR Z S V) (fun z => kf z p l e s m args below meth c H locs ls C RR Z S V)
theorem aw_if_le {x : Int32} {off : Int} {tgt : Nat} (hd : decode mm.2.1 pc = .ok (.ifCond .le off, 3)) (ht : (pc : Int) + off = (tgt : Int)) (kt : x ≤ 0 → aw G mm tb R Qf cells slots h nx tgt L st) (kf : ¬ x ≤ 0 → aw G mm tb R Qf cells slots h nx (pc + 3) L st) : aw G mm tb R Qf cells slots h nx pc L (.int x :: st) := by
  intro p l e s m args below meth c H locs ls C RR Z S V
  exact lv_if_le C.1 C.2.1 hd ht (fun z => kt z p l e s m args below meth c H locs ls C RR Z S V) (fun z => kf z p l e s m args below meth c H locs ls C RR Z S V)
theorem aw_icmp_le {x y : Int32} {off : Int} {tgt : Nat} (hd : decode mm.2.1 pc = .ok (.if_icmp .le off, 3)) (ht : (pc : Int) + off = (tgt : Int)) (kt : x ≤ y → aw G mm tb R Qf cells slots h nx tgt L st) (kf : ¬ x ≤ y → aw G mm tb R Qf cells slots h nx (pc + 3) L st) : aw G mm tb R Qf cells slots h nx pc L (.int y :: .int x :: st) := by
  intro p l e s m args below meth c H locs ls C RR Z S V
  exact lv_icmp_le C.1 C.2.1 hd ht (fun z => kt z p l e s m args below meth c H locs ls C RR Z S V) (fun z => kf z p l e s m args below meth c H locs ls C RR Z S V)
theorem aw_acmp_eq {rx ry : Option Nat} {off : Int} {tgt : Nat} (hd : decode mm.2.1 pc = .ok (.if_acmp .eq off, 3)) (ht : (pc : Int) + off = (tgt : Int)) (kt : rx = ry → aw G mm tb R Qf cells slots h nx tgt L st) (kf : ¬ rx = ry → aw G mm tb R Qf cells slots h nx (pc + 3) L st) : aw G mm tb R Qf cells slots h nx pc L (va_rf ry :: va_rf rx :: st) := by
  intro p l e s m args below meth c H locs ls C RR Z S V
  exact lv_acmp_eq C.1 C.2.1 hd ht (fun z => kt z p l e s m args below meth c H locs ls C RR Z S V) (fun z => kf z p l e s m args below meth c H locs ls C RR Z S V)
theorem aw_acmp_ne {rx ry : Option Nat} {off : Int} {tgt : Nat} (hd : decode mm.2.1 pc = .ok (.if_acmp .ne off, 3)) (ht : (pc : Int) + off = (tgt : Int)) (kt : ¬ rx = ry → aw G mm tb R Qf cells slots h nx tgt L st) (kf : rx = ry → aw G mm tb R Qf cells slots h nx (pc + 3) L st) : aw G mm tb R Qf cells slots h nx pc L (va_rf ry :: va_rf rx :: st) := by
  intro p l e s m args below meth c H locs ls C RR Z S V
  exact lv_acmp_ne C.1 C.2.1 hd ht (fun z => kt z p l e s m args below meth c H locs ls C RR Z S V) (fun z => kf z p l e s m args below meth c H locs ls C RR Z S V)
theorem aw_goto {off : Int} {tgt : Nat} (hd : decode mm.2.1 pc = .ok (.goto off, 3)) (ht : (pc : Int) + off = (tgt : Int)) (kk : aw G mm tb R Qf cells slots h nx tgt L st) : aw G mm tb R Qf cells slots h nx pc L st := by
  intro p l e s m args below meth c H locs ls C RR Z S V
  exact lv_goto C.1 C.2.1 hd ht (kk p l e s m args below meth c H locs ls C RR Z S V)
theorem aw_ifnull {x : Nat} {off : Int} (hd : decode mm.2.1 pc = .ok (.ifnull off, 3)) (kk : aw G mm tb R Qf cells slots h nx (pc + 3) L st) : aw G mm tb R Qf cells slots h nx pc L (.ref x :: st) := by
  intro p l e s m args below meth c H locs ls C RR Z S V
  exact lv_ifnull C.1 C.2.1 hd (kk p l e s m args below meth c H locs ls C RR Z S V)
theorem aw_ifnullN {off : Int} {tgt : Nat} (hd : decode mm.2.1 pc = .ok (.ifnull off, 3)) (ht : (pc : Int) + off = (tgt : Int)) (kk : aw G mm tb R Qf cells slots h nx tgt L st) : aw G mm tb R Qf cells slots h nx pc L (.null :: st) := by
  intro p l e s m args below meth c H locs ls C RR Z S V
  exact lv_ifnullN C.1 C.2.1 hd ht (kk p l e s m args below meth c H locs ls C RR Z S V)
theorem aw_ifnonnull {x : Nat} {off : Int} {tgt : Nat} (hd : decode mm.2.1 pc = .ok (.ifnonnull off, 3)) (ht : (pc : Int) + off = (tgt : Int)) (kk : aw G mm tb R Qf cells slots h nx tgt L st) : aw G mm tb R Qf cells slots h nx pc L (.ref x :: st) := by
  intro p l e s m args below meth c H locs ls C RR Z S V
  exact lv_ifnonnull C.1 C.2.1 hd ht (kk p l e s m args below meth c H locs ls C RR Z S V)
theorem aw_ifnonnullN {off : Int} (hd : decode mm.2.1 pc = .ok (.ifnonnull off, 3)) (kk : aw G mm tb R Qf cells slots h nx (pc + 3) L st) : aw G mm tb R Qf cells slots h nx pc L (.null :: st) := by
  intro p l e s m args below meth c H locs ls C RR Z S V
  exact lv_ifnonnullN C.1 C.2.1 hd (kk p l e s m args below meth c H locs ls C RR Z S V)
theorem aw_tableOut {dflt lo hi : Int} {offs : Array Int} {len : Nat} {x : Int32} {tgt : Nat} (hd : decode mm.2.1 pc = .ok (.tableswitch dflt lo hi offs, len)) (hh : x.toInt < lo ∨ hi < x.toInt) (ht : (pc : Int) + dflt = (tgt : Int)) (kk : aw G mm tb R Qf cells slots h nx tgt L st) : aw G mm tb R Qf cells slots h nx pc L (.int x :: st) := by
  intro p l e s m args below meth c H locs ls C RR Z S V
  exact lv_tableOut C.1 C.2.1 hd hh ht (kk p l e s m args below meth c H locs ls C RR Z S V)
theorem aw_tableIn {dflt lo hi : Int} {offs : Array Int} {len : Nat} {x : Int32} {off : Int} {tgt : Nat} (hd : decode mm.2.1 pc = .ok (.tableswitch dflt lo hi offs, len)) (h1 : ¬ x.toInt < lo) (h2 : ¬ hi < x.toInt) (ho : offs[(x.toInt - lo).toNat]? = some off) (ht : (pc : Int) + off = (tgt : Int)) (kk : aw G mm tb R Qf cells slots h nx tgt L st) : aw G mm tb R Qf cells slots h nx pc L (.int x :: st) := by
  intro p l e s m args below meth c H locs ls C RR Z S V
  exact lv_tableIn C.1 C.2.1 hd h1 h2 ho ht (kk p l e s m args below meth c H locs ls C RR Z S V)
theorem aw_to {L' : aL} {st' : List Value} {h' : aH} (kk : aw G mm tb R Qf cells slots h' nx pc L' st') (e1 : L = L') (e2 : st = st') (e3 : h = h') : aw G mm tb R Qf cells slots h nx pc L st := by
  subst e1 e2 e3; exact kk
theorem aw_top {x y : Int32} (hx : x = y) (kk : aw G mm tb R Qf cells slots h nx pc L (.int y :: st)) : aw G mm tb R Qf cells slots h nx pc L (.int x :: st) := by
  subst hx; exact kk
theorem aw_topl {x y : Int64} (hx : x = y) (kk : aw G mm tb R Qf cells slots h nx pc L (.long y :: st)) : aw G mm tb R Qf cells slots h nx pc L (.long x :: st) := by
  subst hx; exact kk
theorem aw_sub {L' : aL} (ks : List Nat) (hl : lv_pick L ks = L') (kk : aw G mm tb R Qf cells slots h nx pc L' st) : aw G mm tb R Qf cells slots h nx pc L st := by
  intro p l e s m args below meth c H locs ls C RR Z S V
  exact kk p l e s m args below meth c H locs ls C RR Z S (lv_sub V ks hl)
theorem aw_forget {h' : aH} (hf : ∀ a e, h' a = some e → h a = some e) (kk : aw G mm tb R Qf cells slots h' nx pc L st) : aw G mm tb R Qf cells slots h nx pc L st := by
  intro p l e s m args below meth c H locs ls C RR Z S V
  exact kk p l e s m args below meth c H locs ls C ⟨fun a e q => RR.1 a e (hf a e q), fun a e q => RR.2 a e (hf a e q)⟩ Z S V
theorem aw_widen {cells' slots' : Nat} (h1 : cells ≤ cells') (h2 : slots ≤ slots') (kk : aw G mm tb R Qf cells' slots' h nx pc L st) : aw G mm tb R Qf cells slots h nx pc L st := by
  intro p l e s m args below meth c H locs ls C RR Z S V
  exact W.widen h1 h2 (kk p l e s m args below meth c H locs ls C RR Z S V)
theorem aw_fresh {P : Prop} (k : (∀ a e, h a = some e → a < nx) → P) (hp : P → aw G mm tb R Qf cells slots h nx pc L st) : (∀ a e, h a = some e → a < nx) → aw G mm tb R Qf cells slots h nx pc L st := fun z => hp (k z)
/-- what lies in the heap lies below its end, and is ours -/
theorem aw_bd (kk : (∀ a e, h a = some e → a < nx ∧ G.2.2.1 ≤ a) → G.2.2.1 ≤ nx → aw G mm tb R Qf cells slots h nx pc L st) : aw G mm tb R Qf cells slots h nx pc L st := by
  intro p l e s m args below meth c H locs ls C RR Z S V
  exact kk (fun a e q => ⟨by rw [← Z]; exact (RR.1 a e q).lt, RR.2 a e q⟩) (by rw [← Z]; exact Nat.le_trans C.2.2.2.2.2.2.2.2.1.2.2.2.1 S.1) p l e s m args below meth c H locs ls C RR Z S V
end AROWS
section AENDS
variable {G : aG} {mm : aM} {tb : List (Nat × Nat × Nat × Nat)} {R : Room} {po : aPost} {cells slots mc ms : Nat} {h : aH} {nx pc : Nat} {L : aL} {st : List Value}
theorem aEnd_q {G : aG} {po : aPost} {h : aH} {s : State} {H : Heap} {locs : List Loc} {nx : Nat} {v : Option Value} {args : Array Value} (RR : aRep G h H) (Z : H.size = nx) (S : va_S (aBs G) s.heap H locs) (hp : po (.inl v) h nx) : ∀ t : State, t.heap = H → s.WarmedH t.vm → aQc G po args s (.returned v) t := fun t ht _ => ⟨v, h, rfl, by rw [ht]; exact RR, by rw [ht, Z]; exact hp, S.F ht⟩
theorem aw_ireturn {x : Int32} (hd : decode mm.2.1 pc = .ok (.ireturn, 1)) (hr : mm.2.2.2 = some .int) (hp : po (.inl (some (.int x))) h nx) (h1 : cells ≤ mc) (h2 : slots ≤ ms) : aw G mm tb R (aEnd G po mc ms) cells slots h nx pc L [.int x] := by
  intro p l e s m args below meth c H locs ls C RR Z S V
  refine W.widen h1 h2 (vx_ret ?_)
  exact W.iret C.1 C.2.1 (C.2.2.2.2.2.1.trans hr) (aEnd_q RR Z S hp) S.2.2 hd C.2.2.2.2.2.2.1
theorem aw_zreturn {x : Int32} (hd : decode mm.2.1 pc = .ok (.ireturn, 1)) (hr : mm.2.2.2 = some .boolean) (hz : narrow .boolean (.int x) = .int x) (hp : po (.inl (some (.int x))) h nx) (h1 : cells ≤ mc) (h2 : slots ≤ ms) : aw G mm tb R (aEnd G po mc ms) cells slots h nx pc L [.int x] := by
  intro p l e s m args below meth c H locs ls C RR Z S V
  refine W.widen h1 h2 (vx_ret ?_)
  exact W.zret C.1 C.2.1 (C.2.2.2.2.2.1.trans hr) hz (aEnd_q RR Z S hp) S.2.2 hd C.2.2.2.2.2.2.1
theorem aw_lreturn {x : Int64} (hd : decode mm.2.1 pc = .ok (.lreturn, 1)) (hr : mm.2.2.2 = some .long) (hp : po (.inl (some (.long x))) h nx) (h1 : cells ≤ mc) (h2 : slots ≤ ms) : aw G mm tb R (aEnd G po mc ms) cells slots h nx pc L [.long x] := by
  intro p l e s m args below meth c H locs ls C RR Z S V
  refine W.widen h1 h2 (vx_ret ?_)
  exact W.lret C.1 C.2.1 (C.2.2.2.2.2.1.trans hr) (aEnd_q RR Z S hp) S.2.2 hd C.2.2.2.2.2.2.1
theorem aw_dreturn {x : UInt64} (hd : decode mm.2.1 pc = .ok (.dreturn, 1)) (hr : mm.2.2.2 = some .double) (hp : po (.inl (some (.double x))) h nx) (h1 : cells ≤ mc) (h2 : slots ≤ ms) : aw G mm tb R (aEnd G po mc ms) cells slots h nx pc L [.double x] := by
  intro p l e s m args below meth c H locs ls C RR Z S V
  refine W.widen h1 h2 (vx_ret ?_)
  exact W.dret C.1 C.2.1 (C.2.2.2.2.2.1.trans hr) (aEnd_q RR Z S hp) S.2.2 hd C.2.2.2.2.2.2.1
theorem aw_areturn {v : Value} (hd : decode mm.2.1 pc = .ok (.areturn, 1)) {rt : FieldType} (hr : mm.2.2.2 = some rt) (hrt : (∃ n, rt = .object n) ∨ ∃ t, rt = .array t) (hv : v = .null ∨ ∃ a, v = .ref a) (hp : po (.inl (some v)) h nx) (h1 : cells ≤ mc) (h2 : slots ≤ ms) : aw G mm tb R (aEnd G po mc ms) cells slots h nx pc L [v] := by
  intro p l e s m args below meth c H locs ls C RR Z S V
  refine W.widen h1 h2 (vx_ret ?_)
  exact W.aret C.1 C.2.1 (C.2.2.2.2.2.1.trans hr) hrt hv (aEnd_q RR Z S hp) S.2.2 hd C.2.2.2.2.2.2.1
theorem aw_return  (hd : decode mm.2.1 pc = .ok (.return_, 1)) (hr : mm.2.2.2 = none) (hp : po (.inl none) h nx) (h1 : cells ≤ mc) (h2 : slots ≤ ms) : aw G mm tb R (aEnd G po mc ms) cells slots h nx pc L [] := by
  intro p l e s m args below meth c H locs ls C RR Z S V
  refine W.widen h1 h2 (vx_ret ?_)
  exact W.vret C.1 C.2.1 (C.2.2.2.2.2.1.trans hr) (aEnd_q RR Z S hp) S.2.2 hd C.2.2.2.2.2.2.1
/-- an exception that this method doesn't catch -/
theorem awx_out {E : String} (ho : ∀ x ∈ tableOf tb, covers x pc = false) (hp : po (.inr E) h nx) (h1 : cells ≤ mc) (h2 : slots ≤ ms) : awx G mm tb R (aEnd G po mc ms) cells slots h nx pc L E := by
  intro p l e s m args below meth c H locs ls rest q ce C RR Z S V hce hcv hcl
  refine vx_out (by rw [C.2.2.2.2.2.2.2.1]; exact ho) C.2.2.2.2.2.2.1 hce hcv hcl (fun t ht _ => ⟨h, by rw [ht]; exact RR, by rw [ht, Z]; exact hp, S.F ht⟩) S.2.2 h1 h2
end AENDS
