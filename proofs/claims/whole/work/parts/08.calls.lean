theorem vr_outer (c : ClassId) (N h0 : Nat) : ∀ i : Nat, Jvm.Free.Multi.outerC c N h0 i = arrV c N (fun j => va_rf (if j < i then some (h0 + 1 + j) else none))
  | 0 => by
    show ({ cls := c, slots := Array.replicate N .null, vm := .none } : Cell) = _
    rw [arrV_new]
    refine congrArg (arrV c N) (funext fun j => ?_)
    simp [va_rf]
  | i + 1 => by
    show (Jvm.Free.Multi.outerC c N h0 i).setSlot i (.ref (h0 + 1 + i)) = _
    rw [vr_outer c N h0 i, arrV_store]
    refine congrArg (arrV c N) (funext fun j => ?_)
    by_cases e : j = i
    · subst e
      simp [updV, va_rf]
    · by_cases h : j < i
      · simp [updV, e, h, Nat.lt_succ_of_lt h]
      · simp [updV, e, h, show ¬ j < i + 1 by omega]
/-! ===== ROWS that make cells ===== -/
section ANEW
variable {G : aG} {mm : aM} {tb : List (Nat × Nat × Nat × Nat)} {R : Room} {Qf : aQf} {cells slots : Nat} {h : aH} {nx pc : Nat} {L : aL} {st : List Value}
theorem aw_new {q : vw_C} {ci index : Nat} {fs : List Value} (hc : vwCl[ci]? = some q) (hcl : Cond.classLink mm.1.cls index q.1 ∈ lw_tbl) (hins : Cond.instantiable q.1 q.2.2 ∈ lw_tbl) (hini : Cond.initialized q.1 ∈ lw_tbl) (hfs : ∀ j, j < q.2.2 → (parseFieldDescriptor (q.2.1 j).2.2.1).map defaultValue = some (vp_V fs j)) (h1 : cells + 1 ≤ R.cells) (h2 : slots + q.2.2 ≤ R.slots) (hd : decode mm.2.1 pc = .ok (.new index, 3))
    (kk : aw G mm tb R Qf (cells + 1) (slots + q.2.2) (hw h nx (.inr (ci, fs))) (nx + 1) (pc + 3) L (.ref nx :: st)) : aw G mm tb R Qf cells slots h nx pc L st := by
  intro p l e s m args below meth c H locs ls C RR Z S V
  obtain ⟨hin, hnm, ty0, hty⟩ := aCk_of ci q hc
  have C0 := id C
  obtain ⟨hx, hb, hml, hown, hts, hr, hlk, htb, ⟨hK, hKr⟩, hl2, hnm0⟩ := C0
  have hKn := hK.1 ci _ hc
  refine W.newcK hx hb hown (hts _ (aWd_of hcl rfl)) (hts _ (aWd_of hins rfl)) (hts _ (aWd_of hini rfl)) rfl hd h1 h2 hKn.2.1 rfl fun H1 kC hkC e1 z1 o1 => ?_
  subst Z
  refine kk p l e s m args below meth c H1 locs ls C (aRep_push RR ?_ (Nat.le_trans hKr.2.2.1 S.1) o1) z1 (S.push (by omega) o1) V
  exact ⟨_, hc, (u_born ty0 hts hin hKn hkC e1 hty).to (fun j hj => by
    have e9 := hfs j hj
    rw [hty j hj] at e9
    exact Option.some.inj e9)⟩
theorem aw_newarrI {n : Nat} (hn : n ≤ 65536) (hac : Cond.arrayClass .int ∈ lw_tbl) (h1 : cells + 1 ≤ R.cells) (h2 : slots + n ≤ R.slots) (hd : decode mm.2.1 pc = .ok (.newarray .int, 2))
    (kk : aw G mm tb R Qf (cells + 1) (slots + n) (hw h nx (.inl (0, n, .inl (fun _ => 0)))) (nx + 1) (pc + 2) L (.ref nx :: st)) : aw G mm tb R Qf cells slots h nx pc L (.int (nI n) :: st) := by
  intro p l e s m args below meth c H locs ls C RR Z S V
  have C0 := id C
  obtain ⟨hx, hb, hml, hown, hts, hr, hlk, htb, ⟨hK, hKr⟩, hl2, hnm0⟩ := C0
  refine va_newaK (atype := .int) hx hb (hts _ (aWd_of hac rfl)) rfl hd rfl (nI_pos (by omega)) (nI_clamp (by omega)) (by show n * _ ≤ _; simp [componentBytes, newarray.typeOf]; omega) h1 h2 rfl fun H1 cA e1 z1 o1 hAr hNm => ?_
  have hcA : cA = G.2.1 0 := Option.some.inj (hNm.symm.trans (hK.2 0 _ rfl).2)
  subst hcA
  subst Z
  refine kk p l e s m args below meth c H1 locs ls C (aRep_push RR ?_ (Nat.le_trans hKr.2.2.1 S.1) o1) z1 (S.push (by omega) o1) V
  exact e1
theorem aw_newarrZ {n : Nat} (hn : n ≤ 65536) (hac : Cond.arrayClass .boolean ∈ lw_tbl) (h1 : cells + 1 ≤ R.cells) (h2 : slots + n ≤ R.slots) (hd : decode mm.2.1 pc = .ok (.newarray .boolean, 2))
    (kk : aw G mm tb R Qf (cells + 1) (slots + n) (hw h nx (.inl (1, n, .inl (fun _ => 0)))) (nx + 1) (pc + 2) L (.ref nx :: st)) : aw G mm tb R Qf cells slots h nx pc L (.int (nI n) :: st) := by
  intro p l e s m args below meth c H locs ls C RR Z S V
  have C0 := id C
  obtain ⟨hx, hb, hml, hown, hts, hr, hlk, htb, ⟨hK, hKr⟩, hl2, hnm0⟩ := C0
  refine va_newaK (atype := .boolean) hx hb (hts _ (aWd_of hac rfl)) rfl hd rfl (nI_pos (by omega)) (nI_clamp (by omega)) (by show n * _ ≤ _; simp [componentBytes, newarray.typeOf]; omega) h1 h2 rfl fun H1 cA e1 z1 o1 hAr hNm => ?_
  have hcA : cA = G.2.1 1 := Option.some.inj (hNm.symm.trans (hK.2 1 _ rfl).2)
  subst hcA
  subst Z
  refine kk p l e s m args below meth c H1 locs ls C (aRep_push RR ?_ (Nat.le_trans hKr.2.2.1 S.1) o1) z1 (S.push (by omega) o1) V
  exact e1
theorem aw_newarrJ {n : Nat} (hn : n ≤ 65536) (hac : Cond.arrayClass .long ∈ lw_tbl) (h1 : cells + 1 ≤ R.cells) (h2 : slots + n ≤ R.slots) (hd : decode mm.2.1 pc = .ok (.newarray .long, 2))
    (kk : aw G mm tb R Qf (cells + 1) (slots + n) (hw h nx (.inl (2, n, .inr (.inl (fun _ => 0))))) (nx + 1) (pc + 2) L (.ref nx :: st)) : aw G mm tb R Qf cells slots h nx pc L (.int (nI n) :: st) := by
  intro p l e s m args below meth c H locs ls C RR Z S V
  have C0 := id C
  obtain ⟨hx, hb, hml, hown, hts, hr, hlk, htb, ⟨hK, hKr⟩, hl2, hnm0⟩ := C0
  refine va_newaK (atype := .long) hx hb (hts _ (aWd_of hac rfl)) rfl hd rfl (nI_pos (by omega)) (nI_clamp (by omega)) (by show n * _ ≤ _; simp [componentBytes, newarray.typeOf]; omega) h1 h2 rfl fun H1 cA e1 z1 o1 hAr hNm => ?_
  have hcA : cA = G.2.1 2 := Option.some.inj (hNm.symm.trans (hK.2 2 _ rfl).2)
  subst hcA
  subst Z
  refine kk p l e s m args below meth c H1 locs ls C (aRep_push RR ?_ (Nat.le_trans hKr.2.2.1 S.1) o1) z1 (S.push (by omega) o1) V
  exact e1
theorem aw_newarrD {n : Nat} (hn : n ≤ 65536) (hac : Cond.arrayClass .double ∈ lw_tbl) (h1 : cells + 1 ≤ R.cells) (h2 : slots + n ≤ R.slots) (hd : decode mm.2.1 pc = .ok (.newarray .double, 2))
    (kk : aw G mm tb R Qf (cells + 1) (slots + n) (hw h nx (.inl (3, n, .inr (.inr (.inr (.inl (fun _ => 0))))))) (nx + 1) (pc + 2) L (.ref nx :: st)) : aw G mm tb R Qf cells slots h nx pc L (.int (nI n) :: st) := by
  intro p l e s m args below meth c H locs ls C RR Z S V
  have C0 := id C
  obtain ⟨hx, hb, hml, hown, hts, hr, hlk, htb, ⟨hK, hKr⟩, hl2, hnm0⟩ := C0
  refine va_newaK (atype := .double) hx hb (hts _ (aWd_of hac rfl)) rfl hd rfl (nI_pos (by omega)) (nI_clamp (by omega)) (by show n * _ ≤ _; simp [componentBytes, newarray.typeOf]; omega) h1 h2 rfl fun H1 cA e1 z1 o1 hAr hNm => ?_
  have hcA : cA = G.2.1 3 := Option.some.inj (hNm.symm.trans (hK.2 3 _ rfl).2)
  subst hcA
  subst Z
  refine kk p l e s m args below meth c H1 locs ls C (aRep_push RR ?_ (Nat.le_trans hKr.2.2.1 S.1) o1) z1 (S.push (by omega) o1) V
  exact e1
theorem aw_anewO {n index : Nat} (hn : n ≤ 65536) (hcl : Cond.classLink mm.1.cls index "java/lang/Object" ∈ lw_tbl) (h1 : cells + 1 ≤ R.cells) (h2 : slots + n ≤ R.slots) (hd : decode mm.2.1 pc = .ok (.anewarray index, 3))
    (kk : aw G mm tb R Qf (cells + 1) (slots + n) (hw h nx (.inl (4, n, .inr (.inr (.inr (.inr (fun _ => none))))))) (nx + 1) (pc + 3) L (.ref nx :: st)) : aw G mm tb R Qf cells slots h nx pc L (.int (nI n) :: st) := by
  intro p l e s m args below meth c H locs ls C RR Z S V
  have C0 := id C
  obtain ⟨hx, hb, hml, hown, hts, hr, hlk, htb, ⟨hK, hKr⟩, hl2, hnm0⟩ := C0
  have hcl9 : (nI n).toNatClampNeg = n := nI_clamp (by omega)
  refine W.anew (C := "java/lang/Object") hx hb hown (hts _ (aWd_of hcl rfl)) (va_AO.use hKr.2.2.2.2.2.1.1) rfl hd rfl (nI_pos (by omega)) (by rw [hcl9]; omega) h1 (by rw [hcl9]; exact h2) fun cA kA comp f1 f2 f3 f4 => ?_
  rw [hcl9]
  obtain ⟨kA9, comp9, -, -, -, g4⟩ := (hK.2 4 _ rfl).2
  have hcA : cA = G.2.1 4 := Option.some.inj (f1.symm.trans g4)
  subst hcA
  generalize hH1 : H.push ({ cls := G.2.1 4, slots := Array.replicate n .null, vm := .none } : Cell) = H1
  have z1 : H1.size = H.size + 1 := by rw [← hH1, Array.size_push]
  have e1 : H1[H.size]? = some (arrV (G.2.1 4) n (fun _ => .null)) := by rw [← hH1, Array.getElem?_push_size, ← arrV_new]
  have o1 : ∀ q : Nat, q < H.size → H1[q]? = H[q]? := fun q hq => by rw [← hH1, Array.getElem?_push, if_neg (Nat.ne_of_lt hq)]
  subst Z
  refine kk p l e s m args below meth c H1 locs ls C (aRep_push RR ?_ (Nat.le_trans hKr.2.2.1 S.1) o1) z1 (S.push (by omega) o1) V
  exact e1
theorem aw_anewK {n index : Nat} (hn : n ≤ 65536) (hcl : Cond.classLink mm.1.cls index "ShuffleHall$Deck" ∈ lw_tbl) (h1 : cells + 1 ≤ R.cells) (h2 : slots + n ≤ R.slots) (hd : decode mm.2.1 pc = .ok (.anewarray index, 3))
    (kk : aw G mm tb R Qf (cells + 1) (slots + n) (hw h nx (.inl (5, n, .inr (.inr (.inr (.inr (fun _ => none))))))) (nx + 1) (pc + 3) L (.ref nx :: st)) : aw G mm tb R Qf cells slots h nx pc L (.int (nI n) :: st) := by
  intro p l e s m args below meth c H locs ls C RR Z S V
  have C0 := id C
  obtain ⟨hx, hb, hml, hown, hts, hr, hlk, htb, ⟨hK, hKr⟩, hl2, hnm0⟩ := C0
  have hcl9 : (nI n).toNatClampNeg = n := nI_clamp (by omega)
  refine W.anew (C := "ShuffleHall$Deck") hx hb hown (hts _ (aWd_of hcl rfl)) (va_AO.use hKr.2.2.2.2.2.1.2.1) rfl hd rfl (nI_pos (by omega)) (by rw [hcl9]; omega) h1 (by rw [hcl9]; exact h2) fun cA kA comp f1 f2 f3 f4 => ?_
  rw [hcl9]
  obtain ⟨kA9, comp9, -, -, -, g4⟩ := (hK.2 5 _ rfl).2
  have hcA : cA = G.2.1 5 := Option.some.inj (f1.symm.trans g4)
  subst hcA
  generalize hH1 : H.push ({ cls := G.2.1 5, slots := Array.replicate n .null, vm := .none } : Cell) = H1
  have z1 : H1.size = H.size + 1 := by rw [← hH1, Array.size_push]
  have e1 : H1[H.size]? = some (arrV (G.2.1 5) n (fun _ => .null)) := by rw [← hH1, Array.getElem?_push_size, ← arrV_new]
  have o1 : ∀ q : Nat, q < H.size → H1[q]? = H[q]? := fun q hq => by rw [← hH1, Array.getElem?_push, if_neg (Nat.ne_of_lt hq)]
  subst Z
  refine kk p l e s m args below meth c H1 locs ls C (aRep_push RR ?_ (Nat.le_trans hKr.2.2.1 S.1) o1) z1 (S.push (by omega) o1) V
  exact e1
theorem aw_anewS {n index : Nat} (hn : n ≤ 65536) (hcl : Cond.classLink mm.1.cls index "ShuffleHall$Sequence" ∈ lw_tbl) (h1 : cells + 1 ≤ R.cells) (h2 : slots + n ≤ R.slots) (hd : decode mm.2.1 pc = .ok (.anewarray index, 3))
    (kk : aw G mm tb R Qf (cells + 1) (slots + n) (hw h nx (.inl (6, n, .inr (.inr (.inr (.inr (fun _ => none))))))) (nx + 1) (pc + 3) L (.ref nx :: st)) : aw G mm tb R Qf cells slots h nx pc L (.int (nI n) :: st) := by
  intro p l e s m args below meth c H locs ls C RR Z S V
  have C0 := id C
  obtain ⟨hx, hb, hml, hown, hts, hr, hlk, htb, ⟨hK, hKr⟩, hl2, hnm0⟩ := C0
  have hcl9 : (nI n).toNatClampNeg = n := nI_clamp (by omega)
  refine W.anew (C := "ShuffleHall$Sequence") hx hb hown (hts _ (aWd_of hcl rfl)) (va_AO.use hKr.2.2.2.2.2.1.2.2.1) rfl hd rfl (nI_pos (by omega)) (by rw [hcl9]; omega) h1 (by rw [hcl9]; exact h2) fun cA kA comp f1 f2 f3 f4 => ?_
  rw [hcl9]
  obtain ⟨kA9, comp9, -, -, -, g4⟩ := (hK.2 6 _ rfl).2
  have hcA : cA = G.2.1 6 := Option.some.inj (f1.symm.trans g4)
  subst hcA
  generalize hH1 : H.push ({ cls := G.2.1 6, slots := Array.replicate n .null, vm := .none } : Cell) = H1
  have z1 : H1.size = H.size + 1 := by rw [← hH1, Array.size_push]
  have e1 : H1[H.size]? = some (arrV (G.2.1 6) n (fun _ => .null)) := by rw [← hH1, Array.getElem?_push_size, ← arrV_new]
  have o1 : ∀ q : Nat, q < H.size → H1[q]? = H[q]? := fun q hq => by rw [← hH1, Array.getElem?_push, if_neg (Nat.ne_of_lt hq)]
  subst Z
  refine kk p l e s m args below meth c H1 locs ls C (aRep_push RR ?_ (Nat.le_trans hKr.2.2.1 S.1) o1) z1 (S.push (by omega) o1) V
  exact e1
/-- n rows of k ints behind their outer array -/
def hwR (h : aH) (q n k : Nat) : aH := fun a => if q < a ∧ a < q + 1 + n then some (.inl (0, k, .inl (fun _ => 0))) else if a = q then some (.inl (7, n, .inr (.inr (.inr (.inr (fun i => if i < n then some (q + 1 + i) else none)))))) else h a
theorem aw_mnewR {n k index : Nat} (hn : n ≤ 4096) (hk : k ≤ 4096) (hcl : Cond.classLink mm.1.cls index "[[I" ∈ lw_tbl) (hac : Cond.arrayClass .int ∈ lw_tbl) (h1 : cells + (1 + n) ≤ R.cells) (h2 : slots + (n + n * k) ≤ R.slots) (hd : decode mm.2.1 pc = .ok (.multianewarray index 2, 4))
    (kk : aw G mm tb R Qf (cells + 1 + n) (slots + n + n * k) (hwR h nx n k) (nx + 1 + n) (pc + 4) L (.ref nx :: st)) : aw G mm tb R Qf cells slots h nx pc L (.int (nI k) :: .int (nI n) :: st) := by
  intro p l e s m args below meth c H locs ls C RR Z S V
  have C0 := id C
  obtain ⟨hx, hb, hml, hown, hts, hr, hlk, htb, ⟨hK, hKr⟩, hl2, hnm0⟩ := C0
  have hcn : (nI n).toNatClampNeg = n := nI_clamp (by omega)
  have hck : (nI k).toNatClampNeg = k := nI_clamp (by omega)
  intro T hT Xs
  have hAO : (Cond.arrayOver (.array .int)).before args s = true := hKr.2.2.2.2.2.1.2.2.2
  obtain ⟨vm₁, cA, comp, hW1, fA, fC, hO, hI, X', step⟩ := Xs.multianewarray2F hx hown (index := index) (ty := .int) (hts _ (aWd_of hcl rfl)) hAO (hts _ (aWd_of hac rfl)) (g := F0 m pc ls (.int (nI k) :: .int (nI n) :: st)) rfl (by rw [hb]; exact hd) (n := nI n) (k := nI k) rfl (nI_pos (by omega)) (nI_pos (by omega)) (by rw [hcn]; omega) (by rw [hck]; simp [componentBytes]; omega) (by rw [hck]; omega) rfl rfl (by rw [hcn]; exact h1) (by rw [hcn, hck]; exact h2)
  rw [hcn, hck] at X' step
  have hcA : cA = G.2.1 7 := Option.some.inj (fA.symm.trans (hK.2 7 _ rfl).2)
  have hcc : comp = G.2.1 0 := Option.some.inj (fC.symm.trans (hK.2 0 _ rfl).2)
  subst hcA hcc
  generalize hF : Jvm.Free.Multi.fill (T.setVm vm₁) (G.2.1 7) (G.2.1 0) n k (defaultValue .int) n = F at X' step
  have hTh : (T.setVm vm₁).heap = H := hT
  obtain ⟨f1, f2, -, -⟩ := Jvm.Free.Multi.fill_facts (T.setVm vm₁) (G.2.1 7) (G.2.1 0) n k (defaultValue .int) n
  rw [hF, hTh] at f1 f2
  have hold : ∀ x : Nat, x < H.size → F.heap[x]? = H[x]? := fun x hx => by
    have := Jvm.Free.Multi.fill_old (T.setVm vm₁) (G.2.1 7) (G.2.1 0) n k (defaultValue .int) (a := x) (by rw [hTh]; exact hx) n
    rw [hF, hTh] at this
    exact this
  have hrow : ∀ j : Nat, j < n → F.heap[H.size + 1 + j]? = some (vp_cell (G.2.1 0) (k, .inl (fun _ => 0))) := fun j hj => by
    have := Jvm.Free.Multi.fill_inner (T.setVm vm₁) (G.2.1 7) (G.2.1 0) n k (defaultValue .int) n j hj
    rw [hF, hTh] at this
    rw [this, vp_cell_i, ← arrV_new]
    rfl
  have hout : Jvm.Free.Multi.outerC (G.2.1 7) n H.size n = vp_cell (G.2.1 7) (n, .inr (.inr (.inr (.inr (fun i => if i < n then some (H.size + 1 + i) else none))))) := by
    rw [vp_cell_q]
    exact vr_outer (G.2.1 7) n H.size n
  rw [hout] at f2
  subst Z
  have RR' : aRep G (hwR h H.size n k) F.heap := by
    have hbs : G.2.2.1 ≤ H.size := Nat.le_trans hKr.2.2.1 S.1
    refine ⟨fun a f hf => ?_, fun a f hf => ?_⟩
    · unfold hwR at hf
      by_cases q : H.size < a ∧ a < H.size + 1 + n
      · rw [if_pos q] at hf
        cases hf
        have e9 := hrow (a - (H.size + 1)) (by omega)
        rw [show H.size + 1 + (a - (H.size + 1)) = a by omega] at e9
        exact e9
      · rw [if_neg q] at hf
        by_cases q2 : a = H.size
        · rw [if_pos q2] at hf
          cases hf
          rw [q2]
          exact f2
        · rw [if_neg q2] at hf
          exact (RR.1 a f hf).kept (hold a (RR.1 a f hf).lt)
    · unfold hwR at hf
      by_cases q : H.size < a ∧ a < H.size + 1 + n
      · omega
      · rw [if_neg q] at hf
        by_cases q2 : a = H.size
        · omega
        · rw [if_neg q2] at hf
          exact RR.2 a f hf
  obtain ⟨t, a1, b1⟩ := kk p l e s m args below meth c F.heap locs ls C RR' (by rw [f1]) (S.push (by rw [f1]; omega) hold) V F rfl X'
  refine ⟨t, step t ?_, b1⟩
  rw [hT]
  exact a1
end ANEW
/-! ===== CALLS ===== -/
/-- a method of ours, as the tables have it -/
def aOk (mm : aM) (n : Nat) : Prop := Cond.code mm.1 mm.2.1 mm.2.2.1 mm.2.2.2 ∈ lw_tbl ∧ Cond.initialized mm.1.cls ∈ lw_tbl ∧ (mm.1.cls ≠ "java/lang/invoke/MethodHandle" ∧ mm.1.cls ≠ "java/lang/invoke/VarHandle" ∧ (parseMethodDescriptor mm.1.desc).map (fun d => d.parameters.length) = some n)
def aOkV (mm : aM) (n : Nat) : Prop := aOk mm n ∧ Cond.instanceMethod mm.1 ∈ lw_tbl ∧ Cond.selects mm.1.cls mm.1 mm.1 ∈ lw_tbl
def aOkS (mm : aM) (n : Nat) : Prop := aOk mm n ∧ Cond.static mm.1 ∈ lw_tbl
def aOkI (mm : aM) (n : Nat) : Prop := aOk mm n ∧ Cond.instanceMethod mm.1 ∈ lw_tbl ∧ mm.1.name = "<init>" ∧ mm.2.2.2 = none
theorem aGood {mm : aM} {n : Nat} (ok : aOk mm n) : GoodIn aWd (aws mm) := fun w hw => by
  rcases List.mem_cons.mp hw with rfl | hw
  · exact ⟨aWd_of ok.1 rfl, good_of_word rfl⟩
  · exact ⟨hw, aWd_good w hw⟩
theorem aGoodV {mm : aM} {n idx : Nat} {own : String} (ok : aOkV mm n) (hl : Cond.methodLink own idx mm.1 ∈ lw_tbl) : GoodIn aWd (wsV own idx mm.1.cls mm.1 (aws mm)) := fun w hw => by
  unfold wsV at hw
  simp only [List.cons_append, List.nil_append, List.mem_cons] at hw
  rcases hw with rfl | rfl | rfl | rfl | hw
  · exact ⟨aWd_of hl rfl, good_of_word rfl⟩
  · exact ⟨aWd_of ok.2.1 rfl, good_of_word rfl⟩
  · exact ⟨aWd_of ok.2.2 rfl, good_of_word rfl⟩
  · exact ⟨aWd_of ok.1.2.1 rfl, good_of_word rfl⟩
  · exact aGood ok.1 w hw
theorem aGoodS {mm : aM} {n idx : Nat} {own : String} (ok : aOkS mm n) (hl : Cond.methodLink own idx mm.1 ∈ lw_tbl) : GoodIn aWd (va_wsS own idx mm.1 (aws mm)) := fun w hw => by
  unfold va_wsS at hw
  simp only [List.cons_append, List.nil_append, List.mem_cons] at hw
  rcases hw with rfl | rfl | rfl | hw
  · exact ⟨aWd_of hl rfl, good_of_word rfl⟩
  · exact ⟨aWd_of ok.2 rfl, good_of_word rfl⟩
  · exact ⟨aWd_of ok.1.2.1 rfl, good_of_word rfl⟩
  · exact aGood ok.1 w hw
section ACALL
variable {G : aG} {mm mm' : aM} {tb : List (Nat × Nat × Nat × Nat)} {R : Room} {Qf : aQf} {cells slots mc ms k' : Nat} {h : aH} {nx pc idx n : Nat} {L : aL} {st rest As : List Value} {po : aPost} {b : Nat}
theorem aPc_at {as : List Value} {s : State} {H : Heap} {locs : List Loc} (hK : aK G s) (RR : aRep G h H) (Z : H.size = nx) (S : va_S (aBs G) s.heap H locs) : ∀ U : State, U.heap = H → s.WarmedH U.vm → aPc G as h nx as.toArray U := fun U hU hW => ⟨rfl, by rw [hU]; exact RR, by rw [hU]; exact Z, hK.moved hW (by rw [hU]; exact S.1) (by rw [hU]; exact S.2.1)⟩
theorem aw_ofRun {args : Array Value} {p : Program} {l : Launch} {e : Env} {s : State} {m : MethodId} {below : List Frame} {meth : Method} {c : Code} {H : Heap} {locs : List Loc} {ls : Array Slot} {as : Array Value}
    (hr : vx_Run p l e R s m args below meth c H locs cells slots mc ms (F0 m pc ls st) rest (aQc G po as) (aXC G po) (aBs G)) (C : aCx G mm tb p l s m args meth c) (Z : H.size = nx) (S : va_S (aBs G) s.heap H locs) (V : lv_has ls mm.2.2.1 L)
    (kk : ∀ (v : Option Value) (h1 : aH) (n1 : Nat), po (.inl v) h1 n1 → nx ≤ n1 → aw G mm tb R Qf (cells + mc) (slots + ms) h1 n1 (pc + 3) L (v.toList ++ rest))
    (kx : ∀ (E : String) (h1 : aH) (n1 : Nat), po (.inr E) h1 n1 → nx ≤ n1 → awx G mm tb R Qf (cells + mc) (slots + ms) h1 n1 pc L E) :
    W p l e R s m args below meth c H locs cells slots (Qf below args s) (F0 m pc ls st) := by
  intro T hT X
  have key : ∀ {st₀ t T' : State} {L9 : List Loc}, st₀.heap = H → T'.heap = t.heap → (∀ q ∈ L9, aBs G q.base) → va_F (aBs G) st₀ t → nx ≤ t.heap.size ∧ va_S (aBs G) s.heap T'.heap (locs ++ L9) := by
    intro st₀ t T' L9 h0 e1 hL hF
    obtain ⟨k1, k2, k3⟩ := vx_keep h0 e1 S (fun q _ hq => hq) (fun q hq => hq) hL hF
    exact ⟨by rw [← Z, ← e1]; exact k1, k3⟩
  rcases hr T hT X with ⟨v, st₀, t, T', L9, h0, X', hL, e1, e2, ⟨v2, h1, hv, RR1, hp, hF⟩, stp⟩ | ⟨q, st₀, t, T', L9, E, ce, h0, X', hL, e1, e2, ⟨h1, RR1, hp, hF⟩, hce, hcv, hcl, stp⟩
  · obtain ⟨hz, S1⟩ := key h0 e1 hL hF
    cases hv
    obtain ⟨t2, a1, b1⟩ := kk v h1 t.heap.size hp hz p l e s m args below meth c T'.heap (locs ++ L9) ls C (by rw [e1]; exact RR1) (by rw [e1]) S1 V T' rfl X'
    exact ⟨t2, stp t2 a1, b1⟩
  · obtain ⟨hz, S1⟩ := key h0 e1 hL hF
    obtain ⟨t2, a1, b1⟩ := kx E h1 t.heap.size hp hz p l e s m args below meth c T'.heap (locs ++ L9) ls rest q ce C (by rw [e1]; exact RR1) (by rw [e1]) S1 V (by rw [e1]; exact hce) hcv hcl T' rfl X'
    exact ⟨t2, stp.trans a1, b1⟩

theorem aw_callV {q : vw_C} {ci : Nat} {fs : List Value} (hM : aMet G mm' k' mc ms (.ref b :: As) h nx po) (ok : aOkV mm' n) (hl : Cond.methodLink mm.1.cls idx mm'.1 ∈ lw_tbl) (hf : h b = some (.inr (ci, fs))) (hc : vwCl[ci]? = some q) (hq : q.1 = mm'.1.cls) (hn : As.length = n) (hst : st = As.reverse ++ .ref b :: rest) (hcat : (rest.map fun v => v.category).sum ≤ 8) (hd : decode mm.2.1 pc = .ok (.invokevirtual idx, 3)) (hR : k' + 1 ≤ R.frames ∧ 8 + (mm'.2.2.1 + 11) + 40 * k' ≤ R.locals) (hcl : cells + mc ≤ R.cells ∧ slots + ms ≤ R.slots)
    (kk : ∀ (v : Option Value) (h1 : aH) (n1 : Nat), po (.inl v) h1 n1 → nx ≤ n1 → aw G mm tb R Qf (cells + mc) (slots + ms) h1 n1 (pc + 3) L (v.toList ++ rest))
    (kx : ∀ (E : String) (h1 : aH) (n1 : Nat), po (.inr E) h1 n1 → nx ≤ n1 → awx G mm tb R Qf (cells + mc) (slots + ms) h1 n1 pc L E) : aw G mm tb R Qf cells slots h nx pc L st := by
  intro p l e s m args below meth c H locs ls C RR Z S V
  have C0 := id C
  obtain ⟨hx, hb, hml, hown, hts, hr, hlk, htb, hK, hl2, hnm0⟩ := C0
  refine aw_ofRun (vx_runV (As := As) (rest := rest) ⟨hx, hb, hml, hown, hts⟩ (hM l hl2) (cwV n hts (aGoodV ok hl) rfl rfl rfl ⟨rfl, ok.1.2.2⟩ hR) ⟨aPc_blind, ?_, aPc_at hK RR Z S⟩ rfl hn V.1 hst (lv_room hcat) hd hcl) C Z S V kk kx
  have e := va_recv (q := q) hK.1 (aRep_P RR hf) hc (q0 := 0) rfl
  rw [hq] at e
  exact e
theorem aw_callS (hM : aMet G mm' k' mc ms As h nx po) (ok : aOkS mm' n) (hl : Cond.methodLink mm.1.cls idx mm'.1 ∈ lw_tbl) (hn : As.length = n) (hst : st = As.reverse ++ rest) (hcat : (rest.map fun v => v.category).sum ≤ 8) (hd : decode mm.2.1 pc = .ok (.invokestatic idx, 3)) (hR : k' + 1 ≤ R.frames ∧ 8 + (mm'.2.2.1 + 11) + 40 * k' ≤ R.locals) (hcl : cells + mc ≤ R.cells ∧ slots + ms ≤ R.slots)
    (kk : ∀ (v : Option Value) (h1 : aH) (n1 : Nat), po (.inl v) h1 n1 → nx ≤ n1 → aw G mm tb R Qf (cells + mc) (slots + ms) h1 n1 (pc + 3) L (v.toList ++ rest))
    (kx : ∀ (E : String) (h1 : aH) (n1 : Nat), po (.inr E) h1 n1 → nx ≤ n1 → awx G mm tb R Qf (cells + mc) (slots + ms) h1 n1 pc L E) : aw G mm tb R Qf cells slots h nx pc L st := by
  intro p l e s m args below meth c H locs ls C RR Z S V
  have C0 := id C
  obtain ⟨hx, hb, hml, hown, hts, hr, hlk, htb, hK, hl2, hnm0⟩ := C0
  exact aw_ofRun (vx_runS (As := As) (rest := rest) ⟨hx, hb, hml, hown, hts⟩ (hM l hl2) (va_cwS n hts (aGoodS ok hl) rfl rfl rfl ok.1.2.2 hR) ⟨aPc_blind, aPc_at hK RR Z S⟩ rfl hn V.1 hst (lv_room hcat) hd hcl) C Z S V kk kx
theorem aw_callI (hM : aMet G mm' k' mc ms (.ref b :: As) h nx po) (ok : aOkI mm' n) (hl : Cond.methodLink mm.1.cls idx mm'.1 ∈ lw_tbl) (hn : As.length = n) (hst : st = As.reverse ++ .ref b :: rest) (hcat : (rest.map fun v => v.category).sum ≤ 8) (hd : decode mm.2.1 pc = .ok (.invokespecial idx, 3)) (hR : k' + 1 ≤ R.frames ∧ 8 + (mm'.2.2.1 + 11) + 40 * k' ≤ R.locals) (hcl : cells + mc ≤ R.cells ∧ slots + ms ≤ R.slots)
    (kk : ∀ (v : Option Value) (h1 : aH) (n1 : Nat), po (.inl v) h1 n1 → nx ≤ n1 → aw G mm tb R Qf (cells + mc) (slots + ms) h1 n1 (pc + 3) L (v.toList ++ rest))
    (kx : ∀ (E : String) (h1 : aH) (n1 : Nat), po (.inr E) h1 n1 → nx ≤ n1 → awx G mm tb R Qf (cells + mc) (slots + ms) h1 n1 pc L E) : aw G mm tb R Qf cells slots h nx pc L st := by
  intro p l e s m args below meth c H locs ls C RR Z S V
  have C0 := id C
  obtain ⟨hx, hb, hml, hown, hts, hr, hlk, htb, hK, hl2, hnm0⟩ := C0
  refine aw_ofRun (vx_runI (As := As) (rest := rest) (b := b) ⟨hx, hb, hml, hown, hts⟩ (hM l hl2) (cwI (bytes := mm'.2.1) (ws' := aWd) n hts (aGood ok.1) (by unfold aws; rw [ok.2.2.2]) rfl rfl (hts _ (aWd_of ok.1.2.1 rfl)) (hts _ (aWd_of hl rfl)) (hts _ (aWd_of ok.2.1 rfl)) ok.2.2.1 ok.1.2.2 hR) ⟨aPc_blind, aPc_at hK RR Z S⟩ rfl hn V.1 hst (lv_room hcat) hd hcl) C Z S V kk kx
theorem aw_callIN {host : String} (hM : aMet G mm' k' mc ms (.ref b :: As) h nx po) (ok : aOkI mm' n) (hl : Cond.methodLinkNest mm.1.cls idx mm'.1 host ∈ lw_tbl) (hn : As.length = n) (hst : st = As.reverse ++ .ref b :: rest) (hcat : (rest.map fun v => v.category).sum ≤ 8) (hd : decode mm.2.1 pc = .ok (.invokespecial idx, 3)) (hR : k' + 1 ≤ R.frames ∧ 8 + (mm'.2.2.1 + 11) + 40 * k' ≤ R.locals) (hcl : cells + mc ≤ R.cells ∧ slots + ms ≤ R.slots)
    (kk : ∀ (v : Option Value) (h1 : aH) (n1 : Nat), po (.inl v) h1 n1 → nx ≤ n1 → aw G mm tb R Qf (cells + mc) (slots + ms) h1 n1 (pc + 3) L (v.toList ++ rest))
    (kx : ∀ (E : String) (h1 : aH) (n1 : Nat), po (.inr E) h1 n1 → nx ≤ n1 → awx G mm tb R Qf (cells + mc) (slots + ms) h1 n1 pc L E) : aw G mm tb R Qf cells slots h nx pc L st := by
  intro p l e s m args below meth c H locs ls C RR Z S V
  have C0 := id C
  obtain ⟨hx, hb, hml, hown, hts, hr, hlk, htb, hK, hl2, hnm0⟩ := C0
  have hcn := va_cnB (host := host) (own := mm.1.cls) (index := idx) (rm := aRoom k' mc ms) (R := R) (mc := mc) (ms := ms) (ws := aws mm') (ws' := aWd) n hts (aGood ok.1) rfl rfl rfl (hK.2.1 _ (aWn_of hl rfl)) (hts _ (aWd_of ok.1.2.1 rfl)) ok.1.2.2 hR
  rw [ok.2.2.2] at hcn
  exact aw_ofRun (vx_runIN (As := As) (rest := rest) (b := b) ⟨hx, hb, hml, hown, hts⟩ (hM l hl2) ⟨hcn, ok.2.2.1, hts _ (aWd_of ok.2.1 rfl)⟩ ⟨aPc_blind, aPc_at hK RR Z S⟩ rfl hn V.1 hst (lv_room hcat) hd hcl) C Z S V kk kx
theorem aw_callSN {host : String} (hM : aMet G mm' k' mc ms As h nx po) (ok : aOkS mm' n) (hl : Cond.methodLinkNest mm.1.cls idx mm'.1 host ∈ lw_tbl) (hn : As.length = n) (hst : st = As.reverse ++ rest) (hcat : (rest.map fun v => v.category).sum ≤ 8) (hd : decode mm.2.1 pc = .ok (.invokestatic idx, 3)) (hR : k' + 1 ≤ R.frames ∧ 8 + (mm'.2.2.1 + 11) + 40 * k' ≤ R.locals) (hcl : cells + mc ≤ R.cells ∧ slots + ms ≤ R.slots)
    (kk : ∀ (v : Option Value) (h1 : aH) (n1 : Nat), po (.inl v) h1 n1 → nx ≤ n1 → aw G mm tb R Qf (cells + mc) (slots + ms) h1 n1 (pc + 3) L (v.toList ++ rest))
    (kx : ∀ (E : String) (h1 : aH) (n1 : Nat), po (.inr E) h1 n1 → nx ≤ n1 → awx G mm tb R Qf (cells + mc) (slots + ms) h1 n1 pc L E) : aw G mm tb R Qf cells slots h nx pc L st := by
  intro p l e s m args below meth c H locs ls C RR Z S V
  have C0 := id C
  obtain ⟨hx, hb, hml, hown, hts, hr, hlk, htb, hK, hl2, hnm0⟩ := C0
  have hcn := va_cnB (host := host) (own := mm.1.cls) (index := idx) (rm := aRoom k' mc ms) (R := R) (mc := mc) (ms := ms) (ws := aws mm') (ws' := aWd) n hts (aGood ok.1) rfl rfl rfl (hK.2.1 _ (aWn_of hl rfl)) (hts _ (aWd_of ok.1.2.1 rfl)) ok.1.2.2 hR
  exact aw_ofRun (vx_runSN (As := As) (rest := rest) ⟨hx, hb, hml, hown, hts⟩ (hM l hl2) ⟨hcn, hts _ (aWd_of ok.2 rfl), trivial⟩ ⟨aPc_blind, aPc_at hK RR Z S⟩ rfl hn V.1 hst (lv_room hcat) hd hcl) C Z S V kk kx
/-- the constructor of Object -/
theorem aw_objInit {a : Nat} (hl : Cond.methodLink mm.1.cls idx objectInit ∈ lw_tbl) (hi : Cond.instanceMethod objectInit ∈ lw_tbl) (hco : Cond.code objectInit ⟨#[0xb1]⟩ 1 none ∈ lw_tbl) (hcat : (rest.map fun v => v.category).sum + 12 ≤ R.locals) (hfr : 1 ≤ R.frames) (hd : decode mm.2.1 pc = .ok (.invokespecial idx, 3)) (kk : aw G mm tb R Qf cells slots h nx (pc + 3) L rest) : aw G mm tb R Qf cells slots h nx pc L (.ref a :: rest) := by
  intro p l e s m args below meth c H locs ls C RR Z S V
  refine W.objInit C.1 C.2.1 C.2.2.2.1 (C.2.2.2.2.1 _ (aWd_of hl rfl)) (C.2.2.2.2.1 _ (aWd_of hi rfl)) (C.2.2.2.2.1 _ (aWd_of hco rfl)) rfl (by rw [C.2.2.1]; exact V.1) rfl hd hfr ?_ (kk p l e s m args below meth c H locs ls C RR Z S V)
  show 2 * 0 + _ + 12 ≤ _
  omega
/-- 'throw new E("text")' -/
theorem aw_throw {E text : String} {names : List String} {ik is ic : Nat} (hf : Bundle.fit E = true) (hns : ∀ n ∈ names, Bundle.fit n = true) (hk : Cond.classLink mm.1.cls ik E ∈ lw_tbl) (hini : Cond.initialized E ∈ lw_tbl) (hs : (mm.1.cls, is, text) ∈ aStr) (hat : ∀ w ∈ vx_atS mm.1.cls ic E names, w ∈ lw_tbl ∧ (goodWord w || aNk w) = true)
    (d0 : decode mm.2.1 pc = .ok (.new ik, 3)) (d3 : decode mm.2.1 (pc + 3) = .ok (.dup, 1)) (d4 : decode mm.2.1 (pc + 4) = .ok (.ldc is, 2)) (d6 : decode mm.2.1 (pc + 6) = .ok (.invokespecial ic, 3)) (d9 : decode mm.2.1 (pc + 9) = .ok (.athrow, 1)) (ho : ∀ x ∈ tableOf tb, covers x (pc + 9) = false)
    (hfr : names.length + 3 < R.frames) (hlo : (rest.map fun v => v.category).sum + (13 * (names.length + 1) + 43) ≤ R.locals) (h1 : cells + 1 ≤ R.cells) (h2 : slots + 6 ≤ R.slots) (hp : ∀ n1, nx ≤ n1 → po (.inr E) h n1) (h3 : cells + 1 ≤ mc) (h4 : slots + 6 ≤ ms) : aw G mm tb R (aEnd G po mc ms) cells slots h nx pc L rest := by
  intro p l e s m args below meth c H locs ls C RR Z S V
  have C0 := id C
  obtain ⟨hx, hb, hml, hown, hts, hr, hlk, htb, hK, hl2, hnm0⟩ := C0
  obtain ⟨sa, hsa⟩ := hK.2.2.1 _ hs
  have hg : ∀ w ∈ vx_atS mm.1.cls ic E names, vx_ot w = true := fun w hw => by
    have h9 := (hat w hw).2
    unfold vx_ot
    rw [Bool.or_eq_true] at h9 ⊢
    rcases h9 with h9 | h9
    · exact Or.inr h9
    · exact Or.inl (aNk_ot h9)
  refine vx_throwS (names := names) hx hb hl2 hown hf hns (hts _ (aWd_of hk rfl)) (hts _ (aWd_of hini rfl)) hsa (fun w hw => ?_) (fun w hw => ?_) hK.2.2.2.2.1 hK.2.2.2.2.2.1 S (V.1.trans hml.symm) d0 d3 d4 d6 d9 (by rw [htb]; exact ho) hfr hlo h1 h2 hlk (fun t hv hz hq => ?_) S.2.2 h3 h4
  · have h9 := (hat w hw).2
    rw [Bool.or_eq_true] at h9
    rcases h9 with h9 | h9
    · exact hts _ (aWd_of (hat w hw).1 h9)
    · exact va_Nw.use (aNk_ot h9) (hK.2.1 _ (aWn_of (hat w hw).1 h9))
  · rcases List.mem_cons.mp hw with rfl | hw
    · rfl
    · rcases List.mem_cons.mp hw with rfl | hw
      · rfl
      · exact hg w hw
  · refine ⟨h, aRep_keep RR hq, hp _ (by rw [← Z]; exact hz), ?_⟩
    exact ⟨Nat.le_trans S.1 hz, fun q h5 h6 => (hq q (Nat.lt_of_lt_of_le h5 S.1)).trans (S.2.1 q h5 h6)⟩
/-- a cast that holds -/
theorem aw_cast {q : vw_C} {ci index a : Nat} {fs : List Value} {nm : String} (hf : h a = some (.inr (ci, fs))) (hc : vwCl[ci]? = some q) (hl : Cond.classLink mm.1.cls index nm ∈ lw_tbl) (hca : Cond.castable q.1 nm ∈ lw_tbl) (hd : decode mm.2.1 pc = .ok (.checkcast index, 3)) (kk : aw G mm tb R Qf cells slots h nx (pc + 3) L (.ref a :: st)) : aw G mm tb R Qf cells slots h nx pc L (.ref a :: st) := by
  intro p l e s m args below meth c H locs ls C RR Z S V
  exact va_castY C.1 C.2.1 C.2.2.2.1 (C.2.2.2.2.1 _ (aWd_of hl rfl)) (C.2.2.2.2.2.2.2.2.1.2.1 _ (aWn_of hca rfl)) (va_recv (q := q) C.2.2.2.2.2.2.2.2.1.1 (aRep_P RR hf) hc (q0 := 0) rfl) hd (kk p l e s m args below meth c H locs ls C RR Z S V)
/-- Math.max, min, abs -/
theorem aw_max {x y : Int32} (hl : Cond.methodLink mm.1.cls idx Lib.Math.max.name ∈ lw_tbl) (hsx : Cond.static Lib.Math.max.name ∈ lw_tbl) (hi : Cond.initialized "java/lang/Math" ∈ lw_tbl) (hco : Cond.code Lib.Math.max.name Lib.Math.max.code 2 (some .int) ∈ lw_tbl) (hfr : 1 ≤ R.frames) (hlo : (rest.map fun v => v.category).sum + 13 ≤ R.locals) (h1 : cells ≤ R.cells) (h2 : slots ≤ R.slots) (hd : decode mm.2.1 pc = .ok (.invokestatic idx, 3)) (kk : aw G mm tb R Qf cells slots h nx (pc + 3) L (.int (if x < y then y else x) :: rest)) : aw G mm tb R Qf cells slots h nx pc L (.int y :: .int x :: rest) := by
  intro p l e s m args below meth c H locs ls C RR Z S V
  have hts := C.2.2.2.2.1
  exact va_mmax C.1 C.2.1 (C.2.2.1.trans V.1.symm) C.2.2.2.1 (hts _ (aWd_of hl rfl)) (hts _ (aWd_of hsx rfl)) (hts _ (aWd_of hi rfl)) (hts _ (aWd_of hco rfl)) hfr hlo h1 h2 hd (kk p l e s m args below meth c H locs ls C RR Z S V)
theorem aw_min {x y : Int32} (hl : Cond.methodLink mm.1.cls idx Lib.Math.min.name ∈ lw_tbl) (hsx : Cond.static Lib.Math.min.name ∈ lw_tbl) (hi : Cond.initialized "java/lang/Math" ∈ lw_tbl) (hco : Cond.code Lib.Math.min.name Lib.Math.min.code 2 (some .int) ∈ lw_tbl) (hfr : 1 ≤ R.frames) (hlo : (rest.map fun v => v.category).sum + 13 ≤ R.locals) (h1 : cells ≤ R.cells) (h2 : slots ≤ R.slots) (hd : decode mm.2.1 pc = .ok (.invokestatic idx, 3)) (kk : aw G mm tb R Qf cells slots h nx (pc + 3) L (.int (if y < x then y else x) :: rest)) : aw G mm tb R Qf cells slots h nx pc L (.int y :: .int x :: rest) := by
  intro p l e s m args below meth c H locs ls C RR Z S V
  have hts := C.2.2.2.2.1
  exact va_mmin C.1 C.2.1 (C.2.2.1.trans V.1.symm) C.2.2.2.1 (hts _ (aWd_of hl rfl)) (hts _ (aWd_of hsx rfl)) (hts _ (aWd_of hi rfl)) (hts _ (aWd_of hco rfl)) hfr hlo h1 h2 hd (kk p l e s m args below meth c H locs ls C RR Z S V)
end ACALL
theorem aMet.mono {G : aG} {mm : aM} {k mc ms : Nat} {as : List Value} {h : aH} {nx : Nat} {po po' : aPost} (hM : aMet G mm k mc ms as h nx po) (hp : ∀ o h n, po o h n → po' o h n) : aMet G mm k mc ms as h nx po' := by
  intro l hl p e ha hc hk s m args below hf happ hP hK
  obtain ⟨n, o, h1, h2, h3, h4⟩ := hM l hl p e ha hc hk s m args below hf happ hP hK
  refine ⟨n, o, h1, h2, h3, ?_⟩
  rcases h4 with ⟨⟨v, h9, e1, e2, e3, e4⟩, hL⟩ | ⟨q, e1, E, ce, L, ⟨h9, e2, e3, e4⟩, hr⟩
  · exact Or.inl ⟨⟨v, h9, e1, e2, hp _ _ _ e3, e4⟩, hL⟩
  · exact Or.inr ⟨q, e1, E, ce, L, ⟨h9, e2, hp _ _ _ e3, e4⟩, hr⟩

