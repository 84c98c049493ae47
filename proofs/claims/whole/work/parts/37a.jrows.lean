/-! ===== rows for the JDK's lists: the shared empty array, rows of objects, clone, class objects, calls by an interface ===== -/
/-- what may lie in a list: our lists, the model's decks, arrays of ints and booleans -/
def aStor (h : aH) (y : Nat) : Prop := (∃ (ci : Nat) (fs : List Value), (ci = 1 ∨ ci = 6) ∧ h y = some (.inr (ci, fs))) ∨ ∃ (kd n : Nat) (f : (Nat → Int32) ⊕ (Nat → Int64) ⊕ (Nat → UInt32) ⊕ (Nat → UInt64) ⊕ (Nat → Option Nat)), (kd = 0 ∨ kd = 1) ∧ h y = some (.inl (kd, n, f))
theorem aStor.keep {h h1 : aH} {y : Nat} (S : aStor h y) (o : h1 y = h y) : aStor h1 y := by
  rcases S with ⟨ci, fs, a, b⟩ | ⟨kd, n, f, a, b⟩
  · exact Or.inl ⟨ci, fs, a, o.trans b⟩
  · exact Or.inr ⟨kd, n, f, a, o.trans b⟩
theorem aAny_of {G : aG} {h : aH} {H : Heap} {s : State} (RR : aRep G h H) (hK : aK G s) {y : Nat} (S : aStor h y) : va_Any "java/lang/Object" s H y := by
  obtain ⟨hKK, hW, -⟩ := hK
  have fin : ∀ (nm : String) (cell : Cell), va_Nw (.castable nm "java/lang/Object") s → H[y]? = some cell → cell.vm = .none → s.vm.findClass nm = some cell.cls → va_Any "java/lang/Object" s H y := by
    intro nm cell hca hcell hvm hcl
    obtain ⟨c0, t1, f1, f2, f3⟩ := Cond.castable_spec (va_Nw.use (A := #[]) rfl hca)
    cases hcl.symm.trans f1
    obtain ⟨kC, hkC, -⟩ := Vm.findClass_spec hcl
    exact ⟨cell, hcell, by rw [hvm]; rfl, ⟨kC, hkC⟩, fun comp hc => by cases f2.symm.trans hc; exact f3⟩
  rcases S with ⟨ci, fs, hci, hf⟩ | ⟨kd, n, f, hkd, hf⟩
  · obtain ⟨r, hr, cell, g1, g2, g3, -⟩ := RR.1 y _ hf
    have hcls := (hKK.1 ci r hr).2.1
    rw [← g2] at hcls
    rcases hci with rfl | rfl
    · cases hr
      exact fin _ cell (hW _ (aWn_of w_1192 rfl)) g1 g3 hcls
    · cases hr
      exact fin _ cell (hW _ (aWn_of w_1195 rfl)) g1 g3 hcls
  · have hc := RR.1 y _ hf
    have hvm0 : (vp_cell (G.2.1 kd) (n, f)).vm = .none := by
      rcases f with f | f | f | f | f <;> rfl
    have hcl0 : (vp_cell (G.2.1 kd) (n, f)).cls = G.2.1 kd := by
      rcases f with f | f | f | f | f <;> rfl
    rcases hkd with rfl | rfl
    · exact fin "[I" _ (hW _ (aWn_of w_1206 rfl)) hc hvm0 (by rw [hcl0]; exact (hKK.2 0 _ rfl).2)
    · exact fin "[Z" _ (hW _ (aWn_of w_1209 rfl)) hc hvm0 (by rw [hcl0]; exact (hKK.2 1 _ rfl).2)
section AJDK
variable {G : aG} {mm mm' : aM} {tb : List (Nat × Nat × Nat × Nat)} {R : Room} {Qf : aQf} {cells slots k' mc ms n : Nat} {h : aH} {nx pc idx : Nat} {L : aL} {st rest As : List Value} {po : aPost} {b : Nat}
theorem aw_getsE {index : Nat} (hl : Cond.fieldLink mm.1.cls index "java/util/ArrayList" "DEFAULTCAPACITY_EMPTY_ELEMENTDATA" "[Ljava/lang/Object;" ∈ lw_tbl) (hd : decode mm.2.1 pc = .ok (.getstatic index, 3)) (kk : aw G mm tb R Qf cells slots h nx (pc + 3) L (.ref G.2.2.2 :: st)) : aw G mm tb R Qf cells slots h nx pc L st := by
  intro p l e s m args below meth c H locs ls C RR Z S V
  obtain ⟨hx, hb, hml, hown, hts, hr, hlk, htb, ⟨h1, h2, h3, h4, h5, h6, h7, h8, ⟨h13, h14⟩, h15⟩, hl2, hnm0⟩ := id C
  exact va_gets hx hb h13 S hown (hts _ (aWd_of hl rfl)) (fun x hx => hx) hd (kk p l e s m args below meth c H locs ls C RR Z S V)
theorem aw_lenE (hd : decode mm.2.1 pc = .ok (.arraylength, 1)) (kk : aw G mm tb R Qf cells slots h nx (pc + 1) L (.int (nI 0) :: st)) : aw G mm tb R Qf cells slots h nx pc L (.ref G.2.2.2 :: st) := by
  intro p l e s m args below meth c H locs ls C RR Z S V
  obtain ⟨hx, hb, hml, hown, hts, hr, hlk, htb, ⟨h1, h2, h3, h4, h5, h6, h7, h8, ⟨h13, h14⟩, h15⟩, hl2, hnm0⟩ := id C
  obtain ⟨cell, g1, g2, g3, g4, g5, g6, g7⟩ := h14
  exact W.alen (n := Int32.ofNat 0) hx hb (by rw [S.2.1 _ (Array.getElem?_eq_some_iff.mp g1).1 g7]; exact g1) g2 (by rw [g5] <;> rfl) rfl rfl hd (kk p l e s m args below meth c H locs ls C RR Z S V)
theorem aw_dup_x1 {va vb : Value} (hd : decode mm.2.1 pc = .ok (.dup_x1, 1)) (hva : va.category = 1) (hvb : vb.category = 1) (kk : aw G mm tb R Qf cells slots h nx (pc + 1) L (va :: vb :: va :: st)) : aw G mm tb R Qf cells slots h nx pc L (va :: vb :: st) := by
  intro p l e s m args below meth c H locs ls C RR Z S V
  exact lv_dup_x1 C.1 C.2.1 hd hva hvb (kk p l e s m args below meth c H locs ls C RR Z S V)
theorem aw_aastO {n k a v : Nat} {f : Nat → Option Nat} (hf : h a = some (.inl (4, n, .inr (.inr (.inr (.inr f)))))) (hv : aStor h v) (hk : k < n) (hn : n < 2 ^ 31) (hd : decode mm.2.1 pc = .ok (.aastore, 1))
    (kk : ∀ h2 : aH, h2 a = some (.inl (4, n, .inr (.inr (.inr (.inr (va_up f k (some v))))))) → (∀ b : Nat, b ≠ a → h2 b = h b) → aw G mm tb R Qf cells slots h2 nx (pc + 1) L st) : aw G mm tb R Qf cells slots h nx pc L (.ref v :: .int (nI k) :: .ref a :: st) := by
  intro p l e s m args below meth c H locs ls C RR Z S V
  have hcn : (nI k).toNatClampNeg = k := nI_clamp (by omega)
  have hin := vp_in_nI hk hn
  have h0 : ¬ (nI k) < 0 := fun q => hin (Or.inl q)
  have hK := C.2.2.2.2.2.2.2.2.1
  obtain ⟨cellV, g1, g3, ⟨kC, hkC⟩, hasg⟩ := aAny_of RR hK hv
  obtain ⟨kA, comp, k1, k2, k3, -⟩ := (hK.1.2 4 _ rfl).2
  obtain ⟨kE, hkE, -⟩ := Vm.findClass_spec k3
  refine W.aast C.1 C.2.1 (RR.1 a _ hf) (fun q h => by cases h) (fun h => by cases h) k1 k2 rfl hkE ⟨h0, by show _ < (arrV _ _ _).slots.size; rw [arrV_size, hcn]; exact hk⟩ g1 (fun q h => by rw [h] at g3; cases g3) hkC (hasg _ k3) rfl rfl hd fun H1 e1 z oq => ?_
  refine kk _ hw_s (fun _ n => hw_n n) p l e s m args below meth c H1 _ ls C (aRep_set RR ?_ (RR.2 a _ hf) oq) (z.trans Z) (S.put z oq (RR.2 a _ hf)) V
  show H1[a]? = some (vp_cell _ _)
  rw [e1]
  show some ((vp_cell _ (n, .inr (.inr (.inr (.inr f))))).setSlot _ _) = some (vp_cell _ (n, .inr (.inr (.inr (.inr (va_up f k (some v)))))))
  rw [vp_cell_q, vp_cell_q, hcn, arrV_store]
  congr 2
  funext q
  by_cases hq : q = k
  · subst hq
    simp [updV, va_up, va_rf]
  · simp [updV, va_up, hq]
theorem aw_aastN {n k a : Nat} {f : Nat → Option Nat} (hf : h a = some (.inl (4, n, .inr (.inr (.inr (.inr f)))))) (hk : k < n) (hn : n < 2 ^ 31) (hd : decode mm.2.1 pc = .ok (.aastore, 1))
    (kk : ∀ h2 : aH, h2 a = some (.inl (4, n, .inr (.inr (.inr (.inr (va_up f k none)))))) → (∀ b : Nat, b ≠ a → h2 b = h b) → aw G mm tb R Qf cells slots h2 nx (pc + 1) L st) : aw G mm tb R Qf cells slots h nx pc L (.null :: .int (nI k) :: .ref a :: st) := by
  intro p l e s m args below meth c H locs ls C RR Z S V
  have hcn : (nI k).toNatClampNeg = k := nI_clamp (by omega)
  have hin := vp_in_nI hk hn
  have hK := C.2.2.2.2.2.2.2.2.1
  refine va_WaastN (C := "java/lang/Object") C.1 C.2.1 (RR.1 a _ hf) ((hK.1.2 4 _ rfl).1 n (fun j => va_rf (f j))) (fun h => by cases h) (by show ¬ (nI k < 0 ∨ (arrV _ _ _).slots.size ≤ _); rw [arrV_size]; exact hin) rfl rfl hd fun H1 e1 z oq => ?_
  refine kk _ hw_s (fun _ n => hw_n n) p l e s m args below meth c H1 _ ls C (aRep_set RR ?_ (RR.2 a _ hf) oq) (z.trans Z) (S.put z oq (RR.2 a _ hf)) V
  show H1[a]? = some (vp_cell _ _)
  rw [e1]
  show some ((vp_cell _ (n, .inr (.inr (.inr (.inr f))))).setSlot _ _) = some (vp_cell _ (n, .inr (.inr (.inr (.inr (va_up f k none))))))
  rw [vp_cell_q, vp_cell_q, hcn, arrV_store]
  congr 2
  funext q
  by_cases hq : q = k
  · subst hq
    simp [updV, va_up, va_rf]
  · simp [updV, va_up, hq]
theorem aw_copyO {a a0 n0 n1 sp dp n : Nat} {f g : Nat → Option Nat} (hs9 : h a0 = some (.inl (4, n0, .inr (.inr (.inr (.inr f)))))) (hd9 : h a = some (.inl (4, n1, .inr (.inr (.inr (.inr g)))))) (h4 : sp + n ≤ n0) (h5 : dp + n ≤ n1) (hb0 : n0 < 2 ^ 31) (hb1 : n1 < 2 ^ 31) (hel : ∀ i, i < n → ∀ y, f (sp + i) = some y → aStor h y)
    (hl : Cond.methodLink mm.1.cls idx arraycopyName ∈ lw_tbl) (hna : Cond.native arraycopyName ∈ lw_tbl) (hst : Cond.static arraycopyName ∈ lw_tbl) (hi : Cond.initialized "java/lang/System" ∈ lw_tbl) (hfr : 1 ≤ R.frames) (hlo : (rest.map fun v => v.category).sum + (nativeFrameWords "java/lang/System" "arraycopy" 5 + 11) ≤ R.locals) (hd : decode mm.2.1 pc = .ok (.invokestatic idx, 3))
    (kk : ∀ h2 : aH, h2 a = some (.inl (4, n1, .inr (.inr (.inr (.inr (va_cpy f g sp dp n)))))) → (∀ b : Nat, b ≠ a → h2 b = h b) → aw G mm tb R Qf cells slots h2 nx (pc + 3) L rest) : aw G mm tb R Qf cells slots h nx pc L (.int (nI n) :: .int (nI dp) :: .ref a :: .int (nI sp) :: .ref a0 :: rest) := by
  intro p l e s m args below meth c H locs ls C RR Z S V
  obtain ⟨hx, hb, hml, hown, hts, hr, hlk, htb, hK, hl2, hnm0⟩ := id C
  intro T hT X
  have cn : (nI n).toNatClampNeg = n := nI_clamp (by omega)
  have csp : (nI sp).toNatClampNeg = sp := nI_clamp (by omega)
  have cdp : (nI dp).toNatClampNeg = dp := nI_clamp (by omega)
  have tn : (nI n).toInt = (n : Int) := nI_toInt (by omega)
  have tsp : (nI sp).toInt = (sp : Int) := nI_toInt (by omega)
  have tdp : (nI dp).toInt = (dp : Int) := nI_toInt (by omega)
  have hc0 : H[a0]? = some (vp_cell (G.2.1 4) (n0, .inr (.inr (.inr (.inr f))))) := RR.1 a0 _ hs9
  have hc1 : H[a]? = some (vp_cell (G.2.1 4) (n1, .inr (.inr (.inr (.inr g))))) := RR.1 a _ hd9
  obtain ⟨-, k0, hk0, cm0, hkk0⟩ := (hK.1.2 4 _ rfl).1 n0 (fun j => va_rf (f j))
  obtain ⟨-, k1, hk1, cm1, hkk1⟩ := (hK.1.2 4 _ rfl).1 n1 (fun j => va_rf (g j))
  obtain ⟨vm', X', step⟩ := X.arraycopy hx hown (hts _ (aWd_of hl rfl)) (hts _ (aWd_of hna rfl)) (hts _ (aWd_of hst rfl)) (hts _ (aWd_of hi rfl)) (src := a0) (dst := a) (cs := vp_cell (G.2.1 4) (n0, .inr (.inr (.inr (.inr f))))) (cd := vp_cell (G.2.1 4) (n1, .inr (.inr (.inr (.inr g))))) (srcPos := nI sp) (destPos := nI dp) (n := nI n) (by rw [hT]; exact hc0) (by rw [hT]; exact hc1)
    (fun _ h => by cases h) (fun _ h => by cases h) (fun h => by cases h) (fun h => by cases h) hk0 hk1 hkk0 hkk1 rfl (nI_pos (by omega)) (nI_pos (by omega)) (nI_pos (by omega))
    (by rw [tsp, tn]; show ¬ _ > ((arrV (G.2.1 4) n0 (fun j => va_rf (f j))).slots.size : Int); rw [arrV_size]; omega)
    (by rw [tdp, tn]; show ¬ _ > ((arrV (G.2.1 4) n1 (fun j => va_rf (g j))).slots.size : Int); rw [arrV_size]; omega)
    (fun vm₁ hal i hi => by
      rw [cn] at hi
      have e : (vp_cell (G.2.1 4) (n0, .inr (.inr (.inr (.inr f))))).slots.getD ((nI sp).toNatClampNeg + i) .null = va_rf (f ((nI sp).toNatClampNeg + i)) := by
        show (arrV (G.2.1 4) n0 (fun j => va_rf (f j))).slots.getD _ _ = _
        rw [Array.getD_eq_getD_getElem?, arrV_read _ _ (by rw [csp]; omega)]
        rfl
      rw [e, csp]
      cases hy : f (sp + i) with
      | none => exact ⟨rfl, trivial⟩
      | some y =>
        obtain ⟨cellV, g1, g2, ⟨kC, hkC⟩, hasg⟩ := aAny_of RR hK (hel i hi y hy)
        obtain ⟨kA, comp, r1, r2, r3, -⟩ := (hK.1.2 4 _ rfl).2
        cases hk1.symm.trans r1
        cases hkk1.symm.trans r2
        obtain ⟨kE, hkE, -⟩ := Vm.findClass_spec r3
        obtain ⟨kC', hkC', -⟩ := hal.2.2 _ _ hkC
        obtain ⟨kE', hkE', -⟩ := hal.2.2 _ _ hkE
        refine ⟨rfl, cellV, (show T.heap[y]? = some cellV by rw [hT]; exact g1), (fun q h => by rw [h] at g2; cases g2), ⟨kC', hkC'⟩, ⟨kE', hkE'⟩, ?_⟩
        show vm₁.assignable _ _ = true
        rw [hal.assignable]
        exact hasg _ r3)
    (g := F0 m pc ls (.int (nI n) :: .int (nI dp) :: .ref a :: .int (nI sp) :: .ref a0 :: rest)) rfl (V.1.trans hml.symm) (rest := rest) rfl (by rw [hb]; exact hd) hfr (by show 2 * 0 + _ + _ ≤ _; omega)
  have e1 : copied (vp_cell (G.2.1 4) (n0, .inr (.inr (.inr (.inr f))))) (vp_cell (G.2.1 4) (n1, .inr (.inr (.inr (.inr g))))) (nI sp) (nI dp) (nI n) = vp_cell (G.2.1 4) (n1, .inr (.inr (.inr (.inr (va_cpy f g sp dp n))))) := by
    have e9 : copied (vp_cell (G.2.1 4) (n0, .inr (.inr (.inr (.inr f))))) (vp_cell (G.2.1 4) (n1, .inr (.inr (.inr (.inr g))))) (nI sp) (nI dp) (nI n) = vp_cell (G.2.1 4) (n1, .inr (.inr (.inr (.inr (va_cpy f g (nI sp).toNatClampNeg (nI dp).toNatClampNeg (nI n).toNatClampNeg))))) := by
      rw [vp_cell_q, vp_cell_q, vp_cell_q]
      exact va_copied (fun z => va_rf z) _ _ f g (by rw [csp, cn]; exact h4)
    rw [csp, cdp, cn] at e9
    exact e9
  rw [e1] at X' step
  have hl9 : a < H.size := (Array.getElem?_eq_some_iff.mp hc1).1
  have hheap : ((T.setVm vm').setCell a (vp_cell (G.2.1 4) (n1, .inr (.inr (.inr (.inr (va_cpy f g sp dp n))))))).heap = H.setIfInBounds a (vp_cell (G.2.1 4) (n1, .inr (.inr (.inr (.inr (va_cpy f g sp dp n)))))) := by rw [← hT]; rfl
  have oq : ∀ q : Nat, q ≠ a → (H.setIfInBounds a (vp_cell (G.2.1 4) (n1, .inr (.inr (.inr (.inr (va_cpy f g sp dp n)))))))[q]? = H[q]? := fun q hq => by simp [Array.getElem?_setIfInBounds, Ne.symm hq]
  have hbs := RR.2 a _ hd9
  obtain ⟨t, a1, b1⟩ := kk (hw h a (.inl (4, n1, .inr (.inr (.inr (.inr (va_cpy f g sp dp n))))))) hw_s (fun _ n => hw_n n) p l e s m args below meth c _ _ ls C
    (aRep_set RR (show (H.setIfInBounds a _)[a]? = some _ by simp [Array.getElem?_setIfInBounds, hl9]) hbs oq) (by simp; exact Z) ⟨by simp; exact S.1, fun q g1 g2 => by
      rw [oq q (fun e => g2 (by rw [e]; exact hbs))]
      exact S.2.1 q g1 g2, fun q hq => by
      rcases List.mem_append.mp hq with h | h
      · exact S.2.2 q h
      · obtain ⟨z, -, hz⟩ := List.mem_map.mp h
        rw [← hz]
        exact hbs⟩ V _ hheap X'
  exact ⟨t, step t a1, b1⟩
/-- a copy of an array of booleans -/
theorem aw_cloneZ {a n : Nat} {f : Nat → Int32} (hf : h a = some (.inl (1, n, .inl f))) (hbz : ∀ i, i < n → ∃ z, f i = bI z) (hl : Cond.methodLink mm.1.cls idx ⟨"[Z", "clone", "()Ljava/lang/Object;"⟩ ∈ lw_tbl) (h1 : cells + 1 ≤ R.cells) (h2 : slots + n ≤ R.slots) (hfr : 1 ≤ R.frames) (hlo : (st.map fun v => v.category).sum + 14 ≤ R.locals) (hd : decode mm.2.1 pc = .ok (.invokevirtual idx, 3))
    (kk : ∀ h2 : aH, h2 nx = some (.inl (1, n, .inl f)) → (∀ b : Nat, b ≠ nx → h2 b = h b) → aw G mm tb R Qf (cells + 1) (slots + n) h2 (nx + 1) (pc + 3) L (.ref nx :: st)) : aw G mm tb R Qf cells slots h nx pc L (.ref a :: st) := by
  intro p l e s m args below meth c H locs ls C RR Z S V
  obtain ⟨hx, hb, hml, hown, hts, hr, hlk, htb, hK, hl2, hnm0⟩ := id C
  have hsz : (vp_cell (G.2.1 1) (n, .inl f)).slots.size = n := arrV_size _ _ _
  have hcellE : ({ cls := (vp_cell (G.2.1 1) (n, .inl f)).cls, slots := (vp_cell (G.2.1 1) (n, .inl f)).slots } : Cell) = vp_cell (G.2.1 1) (n, .inl f) := rfl
  have hnm : s.vm.findClass "[Z" = some (G.2.1 1) := (hK.1.2 1 _ rfl).2
  obtain ⟨c0, t0', f1, f2, f3⟩ := Cond.castable_spec (va_Nw.use (A := args) rfl (hK.2.1 _ (aWn_of w_946 rfl)))
  cases hnm.symm.trans f1
  intro T hT X
  have hcellT : T.heap[a]? = some (vp_cell (G.2.1 1) (n, .inl f)) := by rw [hT]; exact RR.1 a _ hf
  obtain ⟨-, kA, hkA, comp, hkind⟩ := State.isArrayOf_alike X.warmed.alike ((hK.1.2 1 _ rfl).1 0 (fun _ => .null))
  obtain ⟨-, kS, hkS, compS, hkindS⟩ := (hK.1.2 1 _ rfl).1 0 (fun _ => .null)
  obtain ⟨vm', X', st9⟩ := X.cloneArray hx hown (hts _ (aWd_of hl rfl)) (hts _ (aWd_of w_942 rfl)) (hts _ (aWd_of w_943 rfl)) (hts _ (aWd_of w_944 rfl)) (hts _ (aWd_of w_945 rfl)) (a := a) (cell := vp_cell (G.2.1 1) (n, .inl f)) hcellT (fun k h => by cases h) (fun h => by cases h) hnm f2 f3
    (fun i v hv => by
      have hk' : T.vm.classes[G.2.1 1]? = some kA := hkA
      have hi : i < n := by
        have := (Array.getElem?_eq_some_iff.mp hv).1
        rw [hsz] at this
        exact this
      have hv2 : v = .int (f i) := by
        have e9 : (arrV (G.2.1 1) n (fun j => .int (f j))).slots[i]? = some v := hv
        rw [arrV_read _ _ hi] at e9
        exact (Option.some.inj e9).symm
      obtain ⟨z, hz⟩ := hbz i hi
      have hfit : fits .boolean v = true := by rw [hv2, hz]; cases z <;> decide
      show T.fitsSlot (G.2.1 1) .none i v = true
      simpa [State.fitsSlot, State.slotType?, hk', hkind] using hfit)
    (g := F0 m pc ls (.ref a :: st)) rfl (V.1.trans hml.symm) rfl (by rw [hb]; exact hd) hfr (by show 2 * 0 + _ + 14 ≤ _; omega) h1 (by rw [hsz]; exact h2) (hloader := Vm.clonesLoader_of_array hkS hkindS)
  rw [hcellE, hsz] at X'
  generalize hH1 : H.push (vp_cell (G.2.1 1) (n, .inl f)) = H1
  have z1 : H1.size = H.size + 1 := by rw [← hH1, Array.size_push]
  have e1 : H1[H.size]? = some (vp_cell (G.2.1 1) (n, .inl f)) := by rw [← hH1, Array.getElem?_push_size]
  have o1 : ∀ q : Nat, q < H.size → H1[q]? = H[q]? := fun q hq => by rw [← hH1, Array.getElem?_push, if_neg (Nat.ne_of_lt hq)]
  have hbs : G.2.2.1 ≤ H.size := Nat.le_trans hK.2.2.2.1 S.1
  subst Z
  obtain ⟨t, b1, b2⟩ := kk (hw h H.size (.inl (1, n, .inl f))) hw_s (fun _ n => hw_n n) p l e s m args below meth c H1 locs ls C (aRep_push RR e1 hbs o1) z1 (S.push (by omega) o1) V ((T.setVm vm').pushCell (vp_cell (G.2.1 1) (n, .inl f))) (by rw [← hH1, ← hT]; rfl) X'
  refine ⟨t, st9 t ?_, b2⟩
  rw [hcellE, hT]
  exact b1
theorem aw_castI {a index : Nat} {x : Nat × ((Nat → Int32) ⊕ (Nat → Int64) ⊕ (Nat → UInt32) ⊕ (Nat → UInt64) ⊕ (Nat → Option Nat))} (hf : h a = some (.inl (0, x))) (hl : Cond.classLink mm.1.cls index "[I" ∈ lw_tbl) (hd : decode mm.2.1 pc = .ok (.checkcast index, 3)) (kk : aw G mm tb R Qf cells slots h nx (pc + 3) L (.ref a :: st)) : aw G mm tb R Qf cells slots h nx pc L (.ref a :: st) := by
  intro p l e s m args below meth c H locs ls C RR Z S V
  exact va_castA C.1 C.2.1 C.2.2.2.1 (C.2.2.2.2.1 _ (aWd_of hl rfl)) (aRep_P RR hf) 0 rfl (C.2.2.2.2.2.2.2.2.1.1.2 0 _ rfl).2 hd (kk p l e s m args below meth c H locs ls C RR Z S V)
theorem aw_castZ {a index : Nat} {x : Nat × ((Nat → Int32) ⊕ (Nat → Int64) ⊕ (Nat → UInt32) ⊕ (Nat → UInt64) ⊕ (Nat → Option Nat))} (hf : h a = some (.inl (1, x))) (hl : Cond.classLink mm.1.cls index "[Z" ∈ lw_tbl) (hd : decode mm.2.1 pc = .ok (.checkcast index, 3)) (kk : aw G mm tb R Qf cells slots h nx (pc + 3) L (.ref a :: st)) : aw G mm tb R Qf cells slots h nx pc L (.ref a :: st) := by
  intro p l e s m args below meth c H locs ls C RR Z S V
  exact va_castA C.1 C.2.1 C.2.2.2.1 (C.2.2.2.2.1 _ (aWd_of hl rfl)) (aRep_P RR hf) 0 rfl (C.2.2.2.2.2.2.2.2.1.1.2 1 _ rfl).2 hd (kk p l e s m args below meth c H locs ls C RR Z S V)
/-- a call by an interface, of a list's iterator -/
theorem aw_callF {x : MethodName} {q : vw_C} {ci count : Nat} {fs : List Value} (hM : aMet G mm' k' mc ms (.ref b :: As) h nx po) (ok : aOk mm' n) (hin : Cond.instanceMethod mm'.1 ∈ lw_tbl) (hse : Cond.selects q.1 x mm'.1 ∈ lw_tbl) (hFw : ∀ U : State, aK G U → va_Fw q.1 x mm'.1 U) (hxd : x.cls ≠ "java/lang/invoke/MethodHandle" ∧ x.cls ≠ "java/lang/invoke/VarHandle" ∧ (parseMethodDescriptor x.desc).map (fun d => d.parameters.length) = some n) (hl : Cond.methodLink mm.1.cls idx x ∈ lw_tbl) (hf : h b = some (.inr (ci, fs))) (hc : vwCl[ci]? = some q) (hn : As.length = n) (hst : st = As.reverse ++ .ref b :: rest) (hcat : (rest.map fun v => v.category).sum ≤ 8) (hd : decode mm.2.1 pc = .ok (.invokeinterface idx count, 5)) (hR : k' + 1 ≤ R.frames ∧ 8 + (mm'.2.2.1 + 11) + 40 * k' ≤ R.locals) (hcl : cells + mc ≤ R.cells ∧ slots + ms ≤ R.slots)
    (kk : ∀ (v : Option Value) (h1 : aH) (n1 : Nat), po (.inl v) h1 n1 → nx ≤ n1 → aw G mm tb R Qf (cells + mc) (slots + ms) h1 n1 (pc + 5) L (v.toList ++ rest))
    (kx : ∀ (E : String) (h1 : aH) (n1 : Nat), ¬ po (.inr E) h1 n1) : aw G mm tb R Qf cells slots h nx pc L st := by
  intro p l e s m args below meth c H locs ls C RR Z S V
  obtain ⟨hx, hb, hml, hown, hts, hr, hlk, htb, hK, hl2, hnm0⟩ := id C
  have hG : GoodIn aWd (va_wsF mm.1.cls idx q.1 x mm'.1 (aws mm')) := fun w hw => by
    unfold va_wsF at hw
    simp only [List.cons_append, List.nil_append, List.mem_cons] at hw
    rcases hw with rfl | rfl | rfl | rfl | hw
    · exact ⟨aWd_of hl rfl, good_of_word rfl⟩
    · exact ⟨aWd_of hse rfl, good_of_word rfl⟩
    · exact ⟨aWd_of hin rfl, good_of_word rfl⟩
    · exact ⟨aWd_of ok.2.1 rfl, good_of_word rfl⟩
    · exact aGood ok w hw
  have cw := va_cwF (args := args) (s := s) (R := R) (rm := aRoom k' mc ms) (mc := mc) (ms := ms) n hts hG rfl rfl rfl (hFw s hK) hxd hR
  have hr2 := va_recv (q := q) hK.1 (aRep_P RR hf) hc (q0 := 0) rfl
  have hrun := vx_runF (As := As) (rest := rest) (p := p) (e := e) (m := m) (below := below) (meth := meth) (c := c) (locs := locs) (cells := cells) (slots := slots) (g := F0 m pc ls st) (hK.1.1 ci q hc).2 ⟨hx, hb, hml, hown, hts⟩ (hM l hl2) cw ⟨aPc_blind, hr2, aPc_at hK RR Z S⟩ rfl hn V.1 hst (lv_room hcat) hd hcl
  intro T hT X
  have key : ∀ {st₀ t T' : State} {L9 : List Loc}, st₀.heap = H → T'.heap = t.heap → (∀ q ∈ L9, aBs G q.base) → va_F (aBs G) st₀ t → nx ≤ t.heap.size ∧ va_S (aBs G) s.heap T'.heap (locs ++ L9) := by
    intro st₀ t T' L9 h0 e1 hL hF
    obtain ⟨k1, k2, k3⟩ := vx_keep h0 e1 S (fun q _ hq => hq) (fun q hq => hq) hL hF
    exact ⟨by rw [← Z, ← e1]; exact k1, k3⟩
  rcases hrun T hT X with ⟨v, st₀, t, T', L9, h0, X', hL, e1, e2, ⟨v2, h1, hv, RR1, hp, hF⟩, stp⟩ | ⟨q, st₀, t, T', L9, E, ce, h0, X', hL, e1, e2, ⟨h1, RR1, hp, hF⟩, hce, hcv, hcl, stp⟩
  · obtain ⟨hz, S1⟩ := key h0 e1 hL hF
    cases hv
    obtain ⟨t2, a1, b1⟩ := kk v h1 t.heap.size hp hz p l e s m args below meth c T'.heap (locs ++ L9) ls C (by rw [e1]; exact RR1) (by rw [e1]) S1 V T' rfl X'
    exact ⟨t2, stp t2 a1, b1⟩
  · exact absurd hp (kx _ _ _)
/-- what holds at a call that is given the class object of Object[] too -/
def aPcM (G : aG) (as : List Value) (h : aH) (nx mi : Nat) : Array Value → State → Prop := fun v U => aPc G as h nx v U ∧ va_Mi "[Ljava/lang/Object;" mi U
/-- getClass() of an Object[], and the call of copyOf behind it -/
theorem aw_getCcopy {a nn len idx2 : Nat} {f : Nat → Option Nat} (hM : ∀ (mi : Nat) (l : Launch), l.stackTraces = false → vx_Met l mJ7_copyOf_6403c.1 (aws mJ7_copyOf_6403c) (aRoom k' mc ms) (aPcM G [.ref a, .int (nI nn), .ref mi] h nx mi) (aQc G po) (aXC G po) mc ms (aBs G)) (hf : h a = some (.inl (4, len, .inr (.inr (.inr (.inr f))))))
    (hl : Cond.methodLink mm.1.cls idx ⟨"java/lang/Object", "getClass", "()Ljava/lang/Class;"⟩ ∈ lw_tbl) (hl3 : Cond.methodLink mm.1.cls idx2 mJ7_copyOf_6403c.1 ∈ lw_tbl) (hd : decode mm.2.1 pc = .ok (.invokevirtual idx, 3)) (hd2 : decode mm.2.1 (pc + 3) = .ok (.invokestatic idx2, 3)) (hfr : 1 ≤ R.frames) (hlo : 16 ≤ R.locals) (hR : k' + 1 ≤ R.frames ∧ 8 + (mJ7_copyOf_6403c.2.2.1 + 11) + 40 * k' ≤ R.locals) (hcl : cells + mc ≤ R.cells ∧ slots + ms ≤ R.slots)
    (kk : ∀ (v : Option Value) (h1 : aH) (n1 : Nat), po (.inl v) h1 n1 → nx ≤ n1 → aw G mm tb R Qf (cells + mc) (slots + ms) h1 n1 (pc + 3 + 3) L (v.toList ++ []))
    (kx : ∀ (E : String) (h1 : aH) (n1 : Nat), ¬ po (.inr E) h1 n1) : aw G mm tb R Qf cells slots h nx pc L [.ref a, .int (nI nn), .ref a] := by
  intro p l e s m args below meth c H locs ls C RR Z S V
  obtain ⟨hx, hb, hml, hown, hts, hr, hlk, htb, hK, hl2, hnm0⟩ := id C
  obtain ⟨mi, hMi⟩ := hK.2.2.2.2.2.2.2.2.2.1
  have hcell : ∃ cell : Cell, H[a]? = some cell ∧ cell.vm.isStatics = false ∧ s.vm.findClass "[Ljava/lang/Object;" = some cell.cls := ⟨_, RR.1 a _ hf, rfl, va_nmO (hK.1.2 4 _ rfl).2 (by decide)⟩
  refine va_getC (C := "[Ljava/lang/Object;") hx hb (hml.trans V.1.symm) hown (hts _ (aWd_of hl rfl)) (va_Nw.use rfl (hK.2.1 _ (aWn_of w_1203 rfl))) (hts _ (aWd_of w_1202 rfl)) (hts _ (aWd_of w_821 rfl)) (hts _ (aWd_of w_835 rfl)) hMi hcell hfr (by show 1 + (1 + 0) + 14 ≤ _; omega) hd ?_
  have hp : ∀ U : State, U.heap = H → s.WarmedH U.vm → aPcM G [.ref a, .int (nI nn), .ref mi] h nx mi ([Value.ref a, .int (nI nn), .ref mi] : List Value).toArray U := fun U hU hW => ⟨aPc_at hK RR Z S U hU hW, hMi.moved hW.alike⟩
  have hbl : FrameBlind (aPcM G [.ref a, .int (nI nn), .ref mi] h nx mi) := fun v U g mk hp => ⟨aPc_blind v U g mk hp.1, hp.2.moved (State.WarmedH.refl U).alike⟩
  exact aw_ofRun (rest := []) (vx_runS (As := [.ref a, .int (nI nn), .ref mi]) (rest := []) ⟨hx, hb, hml, hown, hts⟩ (hM mi l hl2) (va_cwS 3 hts (aGoodS kJ7_copyOf_6403c hl3) rfl rfl rfl kJ7_copyOf_6403c.1.2.2 hR) ⟨hbl, hp⟩ rfl rfl V.1 rfl (lv_room (by show (0 : Nat) ≤ 8; omega)) hd2 hcl) C Z S V kk (fun E h1 n1 hq _ => absurd hq (kx E h1 n1))
end AJDK
