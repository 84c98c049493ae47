/-! ===== ROWS of the heap ===== -/
theorem u_ws_good {C : String} {T : u_T} {N : Nat} : ∀ w ∈ u_ws C T N, goodWord w = true := by
  intro w hw
  obtain ⟨k, -, rfl⟩ := List.mem_map.mp hw
  unfold u_lay
  by_cases q : (T k).2.2.2 = true
  · rw [if_pos q]; rfl
  · rw [if_neg q]; rfl
theorem aWd_u {C : String} {T : u_T} {N : Nat} (h : ∀ w ∈ u_ws C T N, w ∈ lw_tbl) : ∀ w ∈ u_ws C T N, w ∈ aWd := fun w hw => aWd_of (h w hw) (u_ws_good w hw)
/-- what is known of each class whose objects lie in our heap -/
def aCk (q : vw_C) : Prop := (∀ w ∈ u_ws q.1 q.2.1 q.2.2, w ∈ aWd) ∧ (∀ a, a < q.2.2 → ∀ b, b < q.2.2 → a ≠ b → (q.2.1 a).2.1 ≠ (q.2.1 b).2.1) ∧ ∃ ty0 : Nat → FieldType, ∀ k, k < q.2.2 → parseFieldDescriptor (q.2.1 k).2.2.1 = some (ty0 k)
theorem aCk_of : ∀ (ci : Nat) (q : vw_C), vwCl[ci]? = some q → aCk q := by
  intro ci q hq
  match ci, hq with
  | 0, hq => cases hq; exact ⟨aWd_u inJI, nmJx35411, _, tyJx35411_ok⟩
  | 1, hq => cases hq; exact ⟨aWd_u inJL, nmJx4a65c, _, tyJx4a65c_ok⟩
  | 2, hq => cases hq; exact ⟨aWd_u inX1, nmX1, _, tyX1_ok⟩
  | 3, hq => cases hq; exact ⟨aWd_u inX3, nmX3, _, tyX3_ok⟩
  | 4, hq => cases hq; exact ⟨aWd_u inX4, nmX4, _, tyX4_ok⟩
  | 5, hq => cases hq; exact ⟨aWd_u inX6, nmX6, _, tyX6_ok⟩
  | 6, hq => cases hq; exact ⟨aWd_u inX7, nmX7, _, tyX7_ok⟩
  | 7, hq => cases hq; exact ⟨aWd_u inX8, nmX8, _, tyX8_ok⟩
  | 8, hq => cases hq; exact ⟨aWd_u inX9, nmX9, _, tyX9_ok⟩
  | k + 9, hq => simp [vwCl] at hq
theorem aRep_set {G : aG} {h : aH} {H H1 : Heap} {a : Nat} {e : va_E} (R : aRep G h H) (he : va_at G.1 vwCl (a, amap G.2.1 e) H1) (hb : G.2.2.1 ≤ a) (oq : ∀ q : Nat, q ≠ a → H1[q]? = H[q]?) : aRep G (hw h a e) H1 := by
  refine ⟨fun b f hf => ?_, fun b f hf => ?_⟩
  · by_cases q : b = a
    · subst q
      rw [hw_s] at hf
      cases hf
      exact he
    · rw [hw_n q] at hf
      exact (R.1 b f hf).kept (oq b q)
  · by_cases q : b = a
    · subst q; exact hb
    · rw [hw_n q] at hf
      exact R.2 b f hf
theorem aRep_push {G : aG} {h : aH} {H H1 : Heap} {e : va_E} (R : aRep G h H) (he : va_at G.1 vwCl (H.size, amap G.2.1 e) H1) (hb : G.2.2.1 ≤ H.size) (oq : ∀ q : Nat, q < H.size → H1[q]? = H[q]?) : aRep G (hw h H.size e) H1 := by
  refine ⟨fun b f hf => ?_, fun b f hf => ?_⟩
  · by_cases q : b = H.size
    · subst q
      rw [hw_s] at hf
      cases hf
      exact he
    · rw [hw_n q] at hf
      have hlt := (R.1 b f hf).lt
      exact (R.1 b f hf).kept (oq b hlt)
  · by_cases q : b = H.size
    · subst q; exact hb
    · rw [hw_n q] at hf
      exact R.2 b f hf
theorem aRep_keep {G : aG} {h : aH} {H H1 : Heap} (R : aRep G h H) (oq : ∀ q : Nat, q < H.size → H1[q]? = H[q]?) : aRep G h H1 :=
  ⟨fun b f hf => (R.1 b f hf).kept (oq b (R.1 b f hf).lt), R.2⟩
theorem va_S.push {A : Nat → Prop} {H0 H H1 : Heap} {locs : List Loc} (S : va_S A H0 H locs) (z : H.size ≤ H1.size) (oq : ∀ q : Nat, q < H.size → H1[q]? = H[q]?) : va_S A H0 H1 locs := ⟨Nat.le_trans S.1 z, fun x h1 h2 => (oq x (Nat.lt_of_lt_of_le h1 S.1)).trans (S.2.1 x h1 h2), S.2.2⟩
theorem aRep_P {G : aG} {h : aH} {H : Heap} {a : Nat} {e : va_E} (R : aRep G h H) (hf : h a = some e) : va_P G.1 vwCl [(a, amap G.2.1 e)] H := by
  intro k q hk
  have hz : k < 1 := (List.getElem?_eq_some_iff.mp hk).1
  have h0 : k = 0 := by omega
  subst h0
  cases hk
  exact R.1 a e hf
section AHEAP
variable {G : aG} {mm : aM} {tb : List (Nat × Nat × Nat × Nat)} {R : Room} {Qf : aQf} {cells slots : Nat} {h : aH} {nx pc : Nat} {L : aL} {st : List Value}
theorem aw_get {q : vw_C} {ci index a : Nat} {fs : List Value} {v : Value} {dc nm ds : String} {fin : Bool} (k : Nat) (hf : h a = some (.inr (ci, fs))) (hc : vwCl[ci]? = some q) (hT : q.2.1 k = (dc, nm, ds, fin)) (hk : k < q.2.2) (hl : Cond.fieldLink mm.1.cls index dc nm ds ∈ lw_tbl) (hv : fs[k]? = some v) (hd : decode mm.2.1 pc = .ok (.getfield index, 3)) (kk : aw G mm tb R Qf cells slots h nx (pc + 3) L (v :: st)) : aw G mm tb R Qf cells slots h nx pc L (.ref a :: st) := by
  intro p l e s m args below meth c H locs ls C RR Z S V
  have e := aCk_of ci q hc
  exact va_get (own := mm.1.cls) (ref := dc) (C := q.1) (T := q.2.1) (N := q.2.2) (v := v) C.1 C.2.1 C.2.2.2.2.1 e.1 C.2.2.2.1 C.2.2.2.2.2.2.2.2.1.1 (aRep_P RR hf) 0 rfl hc k hk (by rw [hT]; exact C.2.2.2.2.1 _ (aWd_of hl rfl)) (fun x hx => by rw [hT] at hx ⊢; exact hx) hv hd (kk p l _ s m args below meth c H locs ls C RR Z S V)
theorem aw_getM {q : vw_C} {ci index a : Nat} {fs : List Value} {v : Value} {dc nm ds : String} {fin : Bool} (k : Nat) (hf : h a = some (.inr (ci, fs))) (hc : vwCl[ci]? = some q) (hT : q.2.1 k = (dc, nm, ds, fin)) (hk : k < q.2.2) {ref : String} (hsf : Cond.sameField ref dc nm ds ∈ lw_tbl) (hl : Cond.fieldLink mm.1.cls index ref nm ds ∈ lw_tbl) (hv : fs[k]? = some v) (hd : decode mm.2.1 pc = .ok (.getfield index, 3)) (kk : aw G mm tb R Qf cells slots h nx (pc + 3) L (v :: st)) : aw G mm tb R Qf cells slots h nx pc L (.ref a :: st) := by
  intro p l e s m args below meth c H locs ls C RR Z S V
  have e := aCk_of ci q hc
  exact va_get (own := mm.1.cls) (ref := ref) (C := q.1) (T := q.2.1) (N := q.2.2) (v := v) C.1 C.2.1 C.2.2.2.2.1 e.1 C.2.2.2.1 C.2.2.2.2.2.2.2.2.1.1 (aRep_P RR hf) 0 rfl hc k hk (by rw [hT]; exact C.2.2.2.2.1 _ (aWd_of hl rfl)) (fun x hx => by rw [hT] at hx ⊢; exact u_same (C.2.2.2.2.1 _ (aWd_of hsf rfl)) x hx) hv hd (kk p l _ s m args below meth c H locs ls C RR Z S V)
theorem aw_getN {q : vw_C} {ci index a : Nat} {fs : List Value} {v : Value} {dc nm ds : String} {fin : Bool} (k : Nat) (hf : h a = some (.inr (ci, fs))) (hc : vwCl[ci]? = some q) (hT : q.2.1 k = (dc, nm, ds, fin)) (hk : k < q.2.2) {host : String} (hl : Cond.fieldLinkNest mm.1.cls index dc nm ds host ∈ lw_tbl) (hv : fs[k]? = some v) (hd : decode mm.2.1 pc = .ok (.getfield index, 3)) (kk : aw G mm tb R Qf cells slots h nx (pc + 3) L (v :: st)) : aw G mm tb R Qf cells slots h nx pc L (.ref a :: st) := by
  intro p l e s m args below meth c H locs ls C RR Z S V
  have e := aCk_of ci q hc
  exact va_getN (own := mm.1.cls) (ref := dc) (host := host) (C := q.1) (T := q.2.1) (N := q.2.2) (v := v) C.1 C.2.1 C.2.2.2.2.1 e.1 C.2.2.2.1 C.2.2.2.2.2.2.2.2.1.1 (aRep_P RR hf) 0 rfl hc k hk (by rw [hT]; exact va_Nw.use rfl (C.2.2.2.2.2.2.2.2.1.2.1 _ (aWn_of hl rfl))) (fun x hx => by rw [hT] at hx ⊢; exact hx) hv hd (kk p l _ s m args below meth c H locs ls C RR Z S V)
theorem aw_put {q : vw_C} {ci index a : Nat} {fs : List Value} {v : Value} {dc nm ds : String} {fin : Bool} (k : Nat) (hf : h a = some (.inr (ci, fs))) (hc : vwCl[ci]? = some q) (hT : q.2.1 k = (dc, nm, ds, fin)) (hk : k < q.2.2) {ty : FieldType} {fs' : List Value} (hdp : parseFieldDescriptor ds = some ty) (hn : narrow ty v = v) (hfit : fits ty v = true) (hfs : fs.set k v = fs') (hl9 : k < fs.length) (hfin : fin = false) (hl : Cond.fieldLink mm.1.cls index dc nm ds ∈ lw_tbl) (hd : decode mm.2.1 pc = .ok (.putfield index, 3)) (kk : aw G mm tb R Qf cells slots (hw h a (.inr (ci, fs'))) nx (pc + 3) L st) : aw G mm tb R Qf cells slots h nx pc L (v :: .ref a :: st) := by
  intro p l e s m args below meth c H locs ls C RR Z S V
  have ec := aCk_of ci q hc
  have C0 := id C
  obtain ⟨hx, hb, hml, hown, hts, hr, hlk, htb, ⟨hK, hKr⟩, hl2, hnm0⟩ := C0
  obtain ⟨hin, hnm, ty0, hty⟩ := ec
  have hap := va_apart (C := q.1) (T := q.2.1) (N := q.2.2) (own := mm.1.cls) hts hin ty0 hty hnm hK hc
  obtain ⟨r, g1, cell, q1, q2, q3, q4⟩ := RR.1 a _ hf
  have er : r = q := Option.some.inj (g1.symm.trans hc)
  subst er
  obtain ⟨hS, hfc, kC, hkC, hkind⟩ := hK.1 ci _ hc
  obtain ⟨cf, kf, fi, f, hi, hsl⟩ := hS k hk
  have hlay := hts _ (hin _ (u_in_lay hk))
  unfold u_lay at hlay
  rw [if_neg (by rw [hT, hfin]; exact Bool.false_ne_true)] at hlay
  have hst := (u_facts hfc hkC (u_lays hts hin hk) hi).1
  have h6 := u_store hfc hkC hkind hlay hi (by rw [hT]; exact hdp) hn hfit
  rw [hT] at hi
  refine W.putK hx hb (f := f) ⟨hown, hts _ (aWd_of hl rfl), ⟨_, _, _, hi⟩, hst⟩ (by rw [q2]; exact h6) q1 q3 (by rw [hsl]; exact k2_hasslot (q4 k hk)) rfl rfl hd fun H' e1 e2 e3 => ?_
  rw [hsl] at e1 ⊢
  subst hfs
  refine kk p l e s m args below meth c H' _ ls C (aRep_set RR ?_ (RR.2 a _ hf) e3) (e2.trans Z) (S.put e2 e3 (RR.2 a _ hf)) V
  exact ⟨_, hc, t_OB.to (V := updV (vp_V fs) k v) ⟨_, e1, q2, q3, t_set q4 hap hk v⟩ (fun j _ => vp_updV_set hl9 v j)⟩
theorem aw_putN {q : vw_C} {ci index a : Nat} {fs : List Value} {v : Value} {dc nm ds : String} {fin : Bool} (k : Nat) (hf : h a = some (.inr (ci, fs))) (hc : vwCl[ci]? = some q) (hT : q.2.1 k = (dc, nm, ds, fin)) (hk : k < q.2.2) {ty : FieldType} {fs' : List Value} (hdp : parseFieldDescriptor ds = some ty) (hn : narrow ty v = v) (hfit : fits ty v = true) (hfs : fs.set k v = fs') (hl9 : k < fs.length) {host : String} (hfin : fin = false) (hl : Cond.fieldLinkNest mm.1.cls index dc nm ds host ∈ lw_tbl) (hd : decode mm.2.1 pc = .ok (.putfield index, 3)) (kk : aw G mm tb R Qf cells slots (hw h a (.inr (ci, fs'))) nx (pc + 3) L st) : aw G mm tb R Qf cells slots h nx pc L (v :: .ref a :: st) := by
  intro p l e s m args below meth c H locs ls C RR Z S V
  have ec := aCk_of ci q hc
  have C0 := id C
  obtain ⟨hx, hb, hml, hown, hts, hr, hlk, htb, ⟨hK, hKr⟩, hl2, hnm0⟩ := C0
  obtain ⟨hin, hnm, ty0, hty⟩ := ec
  have hap := va_apart (C := q.1) (T := q.2.1) (N := q.2.2) (own := mm.1.cls) hts hin ty0 hty hnm hK hc
  obtain ⟨r, g1, cell, q1, q2, q3, q4⟩ := RR.1 a _ hf
  have er : r = q := Option.some.inj (g1.symm.trans hc)
  subst er
  obtain ⟨hS, hfc, kC, hkC, hkind⟩ := hK.1 ci _ hc
  obtain ⟨cf, kf, fi, f, hi, hsl⟩ := hS k hk
  have hlay := hts _ (hin _ (u_in_lay hk))
  unfold u_lay at hlay
  rw [if_neg (by rw [hT, hfin]; exact Bool.false_ne_true)] at hlay
  have hst := (u_facts hfc hkC (u_lays hts hin hk) hi).1
  have h6 := u_store hfc hkC hkind hlay hi (by rw [hT]; exact hdp) hn hfit
  rw [hT] at hi
  refine va_WputK hx hb (f := f) hown (va_Nw.use rfl (hKr.1 _ (aWn_of hl rfl))) hi hst (by rw [q2]; exact h6) q1 q3 (by rw [hsl]; exact k2_hasslot (q4 k hk)) rfl rfl hd fun H' e1 e2 e3 => ?_
  rw [hsl] at e1 ⊢
  subst hfs
  refine kk p l e s m args below meth c H' _ ls C (aRep_set RR ?_ (RR.2 a _ hf) e3) (e2.trans Z) (S.put e2 e3 (RR.2 a _ hf)) V
  exact ⟨_, hc, t_OB.to (V := updV (vp_V fs) k v) ⟨_, e1, q2, q3, t_set q4 hap hk v⟩ (fun j _ => vp_updV_set hl9 v j)⟩
theorem aw_putM {q : vw_C} {ci index a : Nat} {fs : List Value} {v : Value} {dc nm ds : String} {fin : Bool} (k : Nat) (hf : h a = some (.inr (ci, fs))) (hc : vwCl[ci]? = some q) (hT : q.2.1 k = (dc, nm, ds, fin)) (hk : k < q.2.2) {ty : FieldType} {fs' : List Value} (hdp : parseFieldDescriptor ds = some ty) (hn : narrow ty v = v) (hfit : fits ty v = true) (hfs : fs.set k v = fs') (hl9 : k < fs.length) {ref : String} (hfin : fin = false) (hsf : Cond.sameField ref dc nm ds ∈ lw_tbl) (hl : Cond.fieldLink mm.1.cls index ref nm ds ∈ lw_tbl) (hd : decode mm.2.1 pc = .ok (.putfield index, 3)) (kk : aw G mm tb R Qf cells slots (hw h a (.inr (ci, fs'))) nx (pc + 3) L st) : aw G mm tb R Qf cells slots h nx pc L (v :: .ref a :: st) := by
  intro p l e s m args below meth c H locs ls C RR Z S V
  have ec := aCk_of ci q hc
  have C0 := id C
  obtain ⟨hx, hb, hml, hown, hts, hr, hlk, htb, ⟨hK, hKr⟩, hl2, hnm0⟩ := C0
  obtain ⟨hin, hnm, ty0, hty⟩ := ec
  have hap := va_apart (C := q.1) (T := q.2.1) (N := q.2.2) (own := mm.1.cls) hts hin ty0 hty hnm hK hc
  obtain ⟨r, g1, cell, q1, q2, q3, q4⟩ := RR.1 a _ hf
  have er : r = q := Option.some.inj (g1.symm.trans hc)
  subst er
  obtain ⟨hS, hfc, kC, hkC, hkind⟩ := hK.1 ci _ hc
  obtain ⟨cf, kf, fi, f, hi, hsl⟩ := hS k hk
  have hlay := hts _ (hin _ (u_in_lay hk))
  unfold u_lay at hlay
  rw [if_neg (by rw [hT, hfin]; exact Bool.false_ne_true)] at hlay
  have hst := (u_facts hfc hkC (u_lays hts hin hk) hi).1
  have h6 := u_store hfc hkC hkind hlay hi (by rw [hT]; exact hdp) hn hfit
  rw [hT] at hi
  refine W.putK hx hb (f := f) ⟨hown, hts _ (aWd_of hl rfl), ⟨_, _, _, u_same (hts _ (aWd_of hsf rfl)) _ hi⟩, hst⟩ (by rw [q2]; exact h6) q1 q3 (by rw [hsl]; exact k2_hasslot (q4 k hk)) rfl rfl hd fun H' e1 e2 e3 => ?_
  rw [hsl] at e1 ⊢
  subst hfs
  refine kk p l e s m args below meth c H' _ ls C (aRep_set RR ?_ (RR.2 a _ hf) e3) (e2.trans Z) (S.put e2 e3 (RR.2 a _ hf)) V
  exact ⟨_, hc, t_OB.to (V := updV (vp_V fs) k v) ⟨_, e1, q2, q3, t_set q4 hap hk v⟩ (fun j _ => vp_updV_set hl9 v j)⟩
theorem aw_putF {q : vw_C} {ci index a : Nat} {fs : List Value} {v : Value} {dc nm ds : String} {fin : Bool} (k : Nat) (hf : h a = some (.inr (ci, fs))) (hc : vwCl[ci]? = some q) (hT : q.2.1 k = (dc, nm, ds, fin)) (hk : k < q.2.2) {ty : FieldType} {fs' : List Value} (hdp : parseFieldDescriptor ds = some ty) (hn : narrow ty v = v) (hfit : fits ty v = true) (hfs : fs.set k v = fs') (hl9 : k < fs.length) (hfin : fin = true) (hini : mm.1.name = "<init>") (hown9 : dc = mm.1.cls) (hl : Cond.fieldLink mm.1.cls index dc nm ds ∈ lw_tbl) (hd : decode mm.2.1 pc = .ok (.putfield index, 3)) (kk : aw G mm tb R Qf cells slots (hw h a (.inr (ci, fs'))) nx (pc + 3) L st) : aw G mm tb R Qf cells slots h nx pc L (v :: .ref a :: st) := by
  intro p l e s m args below meth c H locs ls C RR Z S V
  have ec := aCk_of ci q hc
  have C0 := id C
  obtain ⟨hx, hb, hml, hown, hts, hr, hlk, htb, ⟨hK, hKr⟩, hl2, hnm0⟩ := C0
  obtain ⟨hin, hnm, ty0, hty⟩ := ec
  have hap := va_apart (C := q.1) (T := q.2.1) (N := q.2.2) (own := mm.1.cls) hts hin ty0 hty hnm hK hc
  obtain ⟨r, g1, cell, q1, q2, q3, q4⟩ := RR.1 a _ hf
  have er : r = q := Option.some.inj (g1.symm.trans hc)
  subst er
  obtain ⟨hS, hfc, kC, hkC, hkind⟩ := hK.1 ci _ hc
  obtain ⟨cf, kf, fi, f, hi, hsl⟩ := hS k hk
  have hlay := hts _ (hin _ (u_in_lay hk))
  unfold u_lay at hlay
  rw [if_pos (by rw [hT, hfin])] at hlay
  have hst := (u_facts hfc hkC (u_lays hts hin hk) hi).1
  have hcf : m.cls = cf := by
    obtain ⟨_, _, c', _, _, _, -, -, hf', -, -, -, hown2, -⟩ := Cond.laysFinal_spec hlay
    have e1 : c' = cf := by have := hi.symm.trans hf'; simp at this; exact this.1.symm
    rw [hT] at hown2
    have hown2 : s.vm.findClass dc = some c' := hown2
    rw [hown9] at hown2
    rw [← e1]; exact Option.some.inj (hown.symm.trans hown2)
  have h6 := u_fits hfc hkC hkind (Or.inr hlay) hi (by rw [hT]; exact hdp) hn hfit
  rw [hT] at hi
  refine W.putFinK hx hb hown (hts _ (aWd_of hl rfl)) hi hst hcf (hnm0.trans hini) (by rw [q2]; exact h6) q1 q3 (by rw [hsl]; exact k2_hasslot (q4 k hk)) rfl rfl hd fun H' e1 e2 e3 => ?_
  rw [hsl] at e1 ⊢
  subst hfs
  refine kk p l e s m args below meth c H' _ ls C (aRep_set RR ?_ (RR.2 a _ hf) e3) (e2.trans Z) (S.put e2 e3 (RR.2 a _ hf)) V
  exact ⟨_, hc, t_OB.to (V := updV (vp_V fs) k v) ⟨_, e1, q2, q3, t_set q4 hap hk v⟩ (fun j _ => vp_updV_set hl9 v j)⟩
theorem aw_iaload {a n k : Nat} {f : Nat → Int32} (hf : h a = some (.inl (0, n, .inl f))) (hk : k < n) (hn : n < 2 ^ 31) (hd : decode mm.2.1 pc = .ok (.iaload, 1)) (kk : aw G mm tb R Qf cells slots h nx (pc + 1) L (.int (f k) :: st)) : aw G mm tb R Qf cells slots h nx pc L (.int (nI k) :: .ref a :: st) := by
  intro p l e s m args below meth c H locs ls C RR Z S V
  have hc : (nI k).toNatClampNeg = k := nI_clamp (by omega)
  refine va_iald C.1 C.2.1 C.2.2.2.2.2.2.2.2.1.1 (aRep_P RR hf) 0 0 rfl rfl (vp_in_nI hk hn) hd ?_
  rw [hc]
  exact kk p l e s m args below meth c H locs ls C RR Z S V
theorem aw_zaload {a n k : Nat} {f : Nat → Int32} (hf : h a = some (.inl (1, n, .inl f))) (hk : k < n) (hn : n < 2 ^ 31) (hd : decode mm.2.1 pc = .ok (.baload, 1)) (kk : aw G mm tb R Qf cells slots h nx (pc + 1) L (.int (f k) :: st)) : aw G mm tb R Qf cells slots h nx pc L (.int (nI k) :: .ref a :: st) := by
  intro p l e s m args below meth c H locs ls C RR Z S V
  have hc : (nI k).toNatClampNeg = k := nI_clamp (by omega)
  refine va_zald C.1 C.2.1 C.2.2.2.2.2.2.2.2.1.1 (aRep_P RR hf) 0 1 rfl rfl (vp_in_nI hk hn) hd ?_
  rw [hc]
  exact kk p l e s m args below meth c H locs ls C RR Z S V
theorem aw_laload {a n k : Nat} {f : Nat → Int64} (hf : h a = some (.inl (2, n, .inr (.inl f)))) (hk : k < n) (hn : n < 2 ^ 31) (hd : decode mm.2.1 pc = .ok (.laload, 1)) (kk : aw G mm tb R Qf cells slots h nx (pc + 1) L (.long (f k) :: st)) : aw G mm tb R Qf cells slots h nx pc L (.int (nI k) :: .ref a :: st) := by
  intro p l e s m args below meth c H locs ls C RR Z S V
  have hc : (nI k).toNatClampNeg = k := nI_clamp (by omega)
  refine va_lald C.1 C.2.1 C.2.2.2.2.2.2.2.2.1.1 (aRep_P RR hf) 0 2 rfl rfl (vp_in_nI hk hn) hd ?_
  rw [hc]
  exact kk p l e s m args below meth c H locs ls C RR Z S V
theorem aw_daload {a n k : Nat} {f : Nat → UInt64} (hf : h a = some (.inl (3, n, .inr (.inr (.inr (.inl f)))))) (hk : k < n) (hn : n < 2 ^ 31) (hd : decode mm.2.1 pc = .ok (.daload, 1)) (kk : aw G mm tb R Qf cells slots h nx (pc + 1) L (.double (f k) :: st)) : aw G mm tb R Qf cells slots h nx pc L (.int (nI k) :: .ref a :: st) := by
  intro p l e s m args below meth c H locs ls C RR Z S V
  have hc : (nI k).toNatClampNeg = k := nI_clamp (by omega)
  refine va_dald C.1 C.2.1 C.2.2.2.2.2.2.2.2.1.1 (aRep_P RR hf) 0 3 rfl rfl (vp_in_nI hk hn) hd ?_
  rw [hc]
  exact kk p l e s m args below meth c H locs ls C RR Z S V
theorem aw_aaloadO {a n k : Nat} {f : Nat → Option Nat} (hf : h a = some (.inl (4, n, .inr (.inr (.inr (.inr f)))))) (hk : k < n) (hn : n < 2 ^ 31) (hd : decode mm.2.1 pc = .ok (.aaload, 1)) (kk : aw G mm tb R Qf cells slots h nx (pc + 1) L (va_rf (f k) :: st)) : aw G mm tb R Qf cells slots h nx pc L (.int (nI k) :: .ref a :: st) := by
  intro p l e s m args below meth c H locs ls C RR Z S V
  have hc : (nI k).toNatClampNeg = k := nI_clamp (by omega)
  refine va_aldq (C := "java/lang/Object") C.1 C.2.1 C.2.2.2.2.2.2.2.2.1.1 (aRep_P RR hf) 0 4 rfl rfl (vp_in_nI hk hn) hd ?_
  rw [hc]
  exact kk p l e s m args below meth c H locs ls C RR Z S V
theorem aw_aaloadD {a n k : Nat} {f : Nat → Option Nat} (hf : h a = some (.inl (5, n, .inr (.inr (.inr (.inr f)))))) (hk : k < n) (hn : n < 2 ^ 31) (hd : decode mm.2.1 pc = .ok (.aaload, 1)) (kk : aw G mm tb R Qf cells slots h nx (pc + 1) L (va_rf (f k) :: st)) : aw G mm tb R Qf cells slots h nx pc L (.int (nI k) :: .ref a :: st) := by
  intro p l e s m args below meth c H locs ls C RR Z S V
  have hc : (nI k).toNatClampNeg = k := nI_clamp (by omega)
  refine va_aldq (C := "ShuffleHall$Deck") C.1 C.2.1 C.2.2.2.2.2.2.2.2.1.1 (aRep_P RR hf) 0 5 rfl rfl (vp_in_nI hk hn) hd ?_
  rw [hc]
  exact kk p l e s m args below meth c H locs ls C RR Z S V
theorem aw_aaloadS {a n k : Nat} {f : Nat → Option Nat} (hf : h a = some (.inl (6, n, .inr (.inr (.inr (.inr f)))))) (hk : k < n) (hn : n < 2 ^ 31) (hd : decode mm.2.1 pc = .ok (.aaload, 1)) (kk : aw G mm tb R Qf cells slots h nx (pc + 1) L (va_rf (f k) :: st)) : aw G mm tb R Qf cells slots h nx pc L (.int (nI k) :: .ref a :: st) := by
  intro p l e s m args below meth c H locs ls C RR Z S V
  have hc : (nI k).toNatClampNeg = k := nI_clamp (by omega)
  refine va_aldq (C := "ShuffleHall$Sequence") C.1 C.2.1 C.2.2.2.2.2.2.2.2.1.1 (aRep_P RR hf) 0 6 rfl rfl (vp_in_nI hk hn) hd ?_
  rw [hc]
  exact kk p l e s m args below meth c H locs ls C RR Z S V
theorem aw_aaloadI {a n k : Nat} {f : Nat → Option Nat} (hf : h a = some (.inl (7, n, .inr (.inr (.inr (.inr f)))))) (hk : k < n) (hn : n < 2 ^ 31) (hd : decode mm.2.1 pc = .ok (.aaload, 1)) (kk : aw G mm tb R Qf cells slots h nx (pc + 1) L (va_rf (f k) :: st)) : aw G mm tb R Qf cells slots h nx pc L (.int (nI k) :: .ref a :: st) := by
  intro p l e s m args below meth c H locs ls C RR Z S V
  have hc : (nI k).toNatClampNeg = k := nI_clamp (by omega)
  exact W.aald (v := va_rf (f k)) (ty := .array .int) C.1 C.2.1 (RR.1 a _ hf) ((C.2.2.2.2.2.2.2.2.1.1.2 7 _ rfl).1 n (fun j => va_rf (f j))) rfl (fun q => by cases q) (by show ¬ (nI k < 0 ∨ (arrV _ _ _).slots.size ≤ _); rw [arrV_size]; exact vp_in_nI hk hn) (by show (arrV _ _ _).slots[_]? = _; rw [hc, arrV_read _ _ hk]) rfl rfl hd (kk p l e s m args below meth c H locs ls C RR Z S V)
theorem aw_lenI {a n : Nat} {x : (Nat → Int32) ⊕ (Nat → Int64) ⊕ (Nat → UInt32) ⊕ (Nat → UInt64) ⊕ (Nat → Option Nat)} (hf : h a = some (.inl (0, n, x))) (hd : decode mm.2.1 pc = .ok (.arraylength, 1)) (kk : aw G mm tb R Qf cells slots h nx (pc + 1) L (.int (nI n) :: st)) : aw G mm tb R Qf cells slots h nx pc L (.ref a :: st) := by
  intro p l e s m args below meth c H locs ls C RR Z S V
  exact va_alen (v := nI n) C.1 C.2.1 C.2.2.2.2.2.2.2.2.1.1 (aRep_P RR hf) 0 0 rfl rfl rfl hd (kk p l e s m args below meth c H locs ls C RR Z S V)
theorem aw_lenZ {a n : Nat} {x : (Nat → Int32) ⊕ (Nat → Int64) ⊕ (Nat → UInt32) ⊕ (Nat → UInt64) ⊕ (Nat → Option Nat)} (hf : h a = some (.inl (1, n, x))) (hd : decode mm.2.1 pc = .ok (.arraylength, 1)) (kk : aw G mm tb R Qf cells slots h nx (pc + 1) L (.int (nI n) :: st)) : aw G mm tb R Qf cells slots h nx pc L (.ref a :: st) := by
  intro p l e s m args below meth c H locs ls C RR Z S V
  exact va_alen (v := nI n) C.1 C.2.1 C.2.2.2.2.2.2.2.2.1.1 (aRep_P RR hf) 0 1 rfl rfl rfl hd (kk p l e s m args below meth c H locs ls C RR Z S V)
theorem aw_lenJ {a n : Nat} {x : (Nat → Int32) ⊕ (Nat → Int64) ⊕ (Nat → UInt32) ⊕ (Nat → UInt64) ⊕ (Nat → Option Nat)} (hf : h a = some (.inl (2, n, x))) (hd : decode mm.2.1 pc = .ok (.arraylength, 1)) (kk : aw G mm tb R Qf cells slots h nx (pc + 1) L (.int (nI n) :: st)) : aw G mm tb R Qf cells slots h nx pc L (.ref a :: st) := by
  intro p l e s m args below meth c H locs ls C RR Z S V
  exact va_alen (v := nI n) C.1 C.2.1 C.2.2.2.2.2.2.2.2.1.1 (aRep_P RR hf) 0 2 rfl rfl rfl hd (kk p l e s m args below meth c H locs ls C RR Z S V)
theorem aw_lenD {a n : Nat} {x : (Nat → Int32) ⊕ (Nat → Int64) ⊕ (Nat → UInt32) ⊕ (Nat → UInt64) ⊕ (Nat → Option Nat)} (hf : h a = some (.inl (3, n, x))) (hd : decode mm.2.1 pc = .ok (.arraylength, 1)) (kk : aw G mm tb R Qf cells slots h nx (pc + 1) L (.int (nI n) :: st)) : aw G mm tb R Qf cells slots h nx pc L (.ref a :: st) := by
  intro p l e s m args below meth c H locs ls C RR Z S V
  exact va_alen (v := nI n) C.1 C.2.1 C.2.2.2.2.2.2.2.2.1.1 (aRep_P RR hf) 0 3 rfl rfl rfl hd (kk p l e s m args below meth c H locs ls C RR Z S V)
theorem aw_lenO {a n : Nat} {x : (Nat → Int32) ⊕ (Nat → Int64) ⊕ (Nat → UInt32) ⊕ (Nat → UInt64) ⊕ (Nat → Option Nat)} (hf : h a = some (.inl (4, n, x))) (hd : decode mm.2.1 pc = .ok (.arraylength, 1)) (kk : aw G mm tb R Qf cells slots h nx (pc + 1) L (.int (nI n) :: st)) : aw G mm tb R Qf cells slots h nx pc L (.ref a :: st) := by
  intro p l e s m args below meth c H locs ls C RR Z S V
  exact va_alen (v := nI n) C.1 C.2.1 C.2.2.2.2.2.2.2.2.1.1 (aRep_P RR hf) 0 4 rfl rfl rfl hd (kk p l e s m args below meth c H locs ls C RR Z S V)
theorem aw_lenK {a n : Nat} {x : (Nat → Int32) ⊕ (Nat → Int64) ⊕ (Nat → UInt32) ⊕ (Nat → UInt64) ⊕ (Nat → Option Nat)} (hf : h a = some (.inl (5, n, x))) (hd : decode mm.2.1 pc = .ok (.arraylength, 1)) (kk : aw G mm tb R Qf cells slots h nx (pc + 1) L (.int (nI n) :: st)) : aw G mm tb R Qf cells slots h nx pc L (.ref a :: st) := by
  intro p l e s m args below meth c H locs ls C RR Z S V
  exact va_alen (v := nI n) C.1 C.2.1 C.2.2.2.2.2.2.2.2.1.1 (aRep_P RR hf) 0 5 rfl rfl rfl hd (kk p l e s m args below meth c H locs ls C RR Z S V)
theorem aw_lenS {a n : Nat} {x : (Nat → Int32) ⊕ (Nat → Int64) ⊕ (Nat → UInt32) ⊕ (Nat → UInt64) ⊕ (Nat → Option Nat)} (hf : h a = some (.inl (6, n, x))) (hd : decode mm.2.1 pc = .ok (.arraylength, 1)) (kk : aw G mm tb R Qf cells slots h nx (pc + 1) L (.int (nI n) :: st)) : aw G mm tb R Qf cells slots h nx pc L (.ref a :: st) := by
  intro p l e s m args below meth c H locs ls C RR Z S V
  exact va_alen (v := nI n) C.1 C.2.1 C.2.2.2.2.2.2.2.2.1.1 (aRep_P RR hf) 0 6 rfl rfl rfl hd (kk p l e s m args below meth c H locs ls C RR Z S V)
theorem aw_lenR {a n : Nat} {x : (Nat → Int32) ⊕ (Nat → Int64) ⊕ (Nat → UInt32) ⊕ (Nat → UInt64) ⊕ (Nat → Option Nat)} (hf : h a = some (.inl (7, n, x))) (hd : decode mm.2.1 pc = .ok (.arraylength, 1)) (kk : aw G mm tb R Qf cells slots h nx (pc + 1) L (.int (nI n) :: st)) : aw G mm tb R Qf cells slots h nx pc L (.ref a :: st) := by
  intro p l e s m args below meth c H locs ls C RR Z S V
  exact va_alen (v := nI n) C.1 C.2.1 C.2.2.2.2.2.2.2.2.1.1 (aRep_P RR hf) 0 7 rfl rfl rfl hd (kk p l e s m args below meth c H locs ls C RR Z S V)
theorem aw_iastore {a n k : Nat} {f : Nat → Int32} {x : Int32} (hf : h a = some (.inl (0, n, .inl f))) (hk : k < n) (hn : n < 2 ^ 31) (hd : decode mm.2.1 pc = .ok (.iastore, 1)) (kk : aw G mm tb R Qf cells slots (hw h a (.inl (0, n, .inl (upd f k x)))) nx (pc + 1) L st) : aw G mm tb R Qf cells slots h nx pc L (.int x :: .int (nI k) :: .ref a :: st) := by
  intro p l e s m args below meth c H locs ls C RR Z S V
  have hc : (nI k).toNatClampNeg = k := nI_clamp (by omega)
  refine W.iast C.1 C.2.1 (RR.1 a _ hf) ((C.2.2.2.2.2.2.2.2.1.1.2 0 _ rfl).1 n (fun j => .int (f j))) (fun q => by cases q) (by show ¬ (nI k < 0 ∨ (arrV _ _ _).slots.size ≤ _); rw [arrV_size]; exact vp_in_nI hk hn) rfl rfl hd fun H1 e1 z oq => ?_
  refine kk p l e s m args below meth c H1 _ ls C (aRep_set RR ?_ (RR.2 a _ hf) oq) (z.trans Z) (S.put z oq (RR.2 a _ hf)) V
  show H1[a]? = some (vp_cell _ _)
  rw [e1]
  show some ((vp_cell _ (n, .inl f)).setSlot _ _) = some (vp_cell _ (n, .inl (upd f k x)))
  rw [vp_cell_i, vp_cell_i, hc, arrV_store]
  congr 2
  funext q
  by_cases hq : q = k
  · subst hq
    simp [updV, upd, vp_updL, vf_upd]
  · simp [updV, upd, vp_updL, vf_upd, hq]
theorem aw_zastore {a n k : Nat} {f : Nat → Int32} {x : Int32} (hf : h a = some (.inl (1, n, .inl f))) (hk : k < n) (hn : n < 2 ^ 31) (hz : narrow .boolean (.int x) = .int x) (hd : decode mm.2.1 pc = .ok (.bastore, 1)) (kk : aw G mm tb R Qf cells slots (hw h a (.inl (1, n, .inl (upd f k x)))) nx (pc + 1) L st) : aw G mm tb R Qf cells slots h nx pc L (.int x :: .int (nI k) :: .ref a :: st) := by
  intro p l e s m args below meth c H locs ls C RR Z S V
  have hc : (nI k).toNatClampNeg = k := nI_clamp (by omega)
  refine W.zast C.1 C.2.1 (RR.1 a _ hf) ((C.2.2.2.2.2.2.2.2.1.1.2 1 _ rfl).1 n (fun j => .int (f j))) (fun q => by cases q) (by show ¬ (nI k < 0 ∨ (arrV _ _ _).slots.size ≤ _); rw [arrV_size]; exact vp_in_nI hk hn) rfl rfl hd fun H1 e1 z oq => ?_
  refine kk p l e s m args below meth c H1 _ ls C (aRep_set RR ?_ (RR.2 a _ hf) oq) (z.trans Z) (S.put z oq (RR.2 a _ hf)) V
  show H1[a]? = some (vp_cell _ _)
  rw [e1]
  show some ((vp_cell _ (n, .inl f)).setSlot _ _) = some (vp_cell _ (n, .inl (upd f k x)))
  rw [vp_cell_i, vp_cell_i, hc, arrV_store]
  congr 2
  funext q
  by_cases hq : q = k
  · subst hq
    simp [updV, upd, vp_updL, vf_upd, hz]
  · simp [updV, upd, vp_updL, vf_upd, hq]
theorem aw_lastore {a n k : Nat} {f : Nat → Int64} {x : Int64} (hf : h a = some (.inl (2, n, .inr (.inl f)))) (hk : k < n) (hn : n < 2 ^ 31) (hd : decode mm.2.1 pc = .ok (.lastore, 1)) (kk : aw G mm tb R Qf cells slots (hw h a (.inl (2, n, .inr (.inl (vp_updL f k x))))) nx (pc + 1) L st) : aw G mm tb R Qf cells slots h nx pc L (.long x :: .int (nI k) :: .ref a :: st) := by
  intro p l e s m args below meth c H locs ls C RR Z S V
  have hc : (nI k).toNatClampNeg = k := nI_clamp (by omega)
  refine W.last C.1 C.2.1 (RR.1 a _ hf) ((C.2.2.2.2.2.2.2.2.1.1.2 2 _ rfl).1 n (fun j => .long (f j))) (fun q => by cases q) (by show ¬ (nI k < 0 ∨ (arrV _ _ _).slots.size ≤ _); rw [arrV_size]; exact vp_in_nI hk hn) rfl rfl hd fun H1 e1 z oq => ?_
  refine kk p l e s m args below meth c H1 _ ls C (aRep_set RR ?_ (RR.2 a _ hf) oq) (z.trans Z) (S.put z oq (RR.2 a _ hf)) V
  show H1[a]? = some (vp_cell _ _)
  rw [e1]
  show some ((vp_cell _ (n, .inr (.inl f))).setSlot _ _) = some (vp_cell _ (n, .inr (.inl (vp_updL f k x))))
  rw [vp_cell_l, vp_cell_l, hc, arrV_store]
  congr 2
  funext q
  by_cases hq : q = k
  · subst hq
    simp [updV, upd, vp_updL, vf_upd]
  · simp [updV, upd, vp_updL, vf_upd, hq]
theorem aw_dastore {a n k : Nat} {f : Nat → UInt64} {x : UInt64} (hf : h a = some (.inl (3, n, .inr (.inr (.inr (.inl f)))))) (hk : k < n) (hn : n < 2 ^ 31) (hd : decode mm.2.1 pc = .ok (.dastore, 1)) (kk : aw G mm tb R Qf cells slots (hw h a (.inl (3, n, .inr (.inr (.inr (.inl (vf_upd f k x))))))) nx (pc + 1) L st) : aw G mm tb R Qf cells slots h nx pc L (.double x :: .int (nI k) :: .ref a :: st) := by
  intro p l e s m args below meth c H locs ls C RR Z S V
  have hc : (nI k).toNatClampNeg = k := nI_clamp (by omega)
  refine W.dast C.1 C.2.1 (RR.1 a _ hf) ((C.2.2.2.2.2.2.2.2.1.1.2 3 _ rfl).1 n (fun j => .double (f j))) (fun q => by cases q) (by show ¬ (nI k < 0 ∨ (arrV _ _ _).slots.size ≤ _); rw [arrV_size]; exact vp_in_nI hk hn) rfl rfl hd fun H1 e1 z oq => ?_
  refine kk p l e s m args below meth c H1 _ ls C (aRep_set RR ?_ (RR.2 a _ hf) oq) (z.trans Z) (S.put z oq (RR.2 a _ hf)) V
  show H1[a]? = some (vp_cell _ _)
  rw [e1]
  show some ((vp_cell _ (n, .inr (.inr (.inr (.inl f))))).setSlot _ _) = some (vp_cell _ (n, .inr (.inr (.inr (.inl (vf_upd f k x))))))
  rw [vp_cell_d, vp_cell_d, hc, arrV_store]
  congr 2
  funext q
  by_cases hq : q = k
  · subst hq
    simp [updV, upd, vp_updL, vf_upd]
  · simp [updV, upd, vp_updL, vf_upd, hq]
end AHEAP
