/-! ===== System.arraycopy of ints ===== -/
section ACOPY
variable {G : aG} {mm : aM} {tb : List (Nat × Nat × Nat × Nat)} {R : Room} {Qf : aQf} {cells slots : Nat} {h : aH} {nx pc idx : Nat} {L : aL} {rest : List Value}
theorem aw_copyIV {a a0 n0 n1 sp dp n : Nat} {f g : Nat → Int32} (hs9 : h a0 = some (.inl (0, n0, .inl f))) (hd9 : h a = some (.inl (0, n1, .inl g))) (h4 : sp + n ≤ n0) (h5 : dp + n ≤ n1) (hb0 : n0 < 2 ^ 31) (hb1 : n1 < 2 ^ 31) (hl : Cond.methodLink mm.1.cls idx arraycopyName ∈ lw_tbl) (hna : Cond.native arraycopyName ∈ lw_tbl) (hst : Cond.static arraycopyName ∈ lw_tbl) (hi : Cond.initialized "java/lang/System" ∈ lw_tbl) (hfr : 1 ≤ R.frames) (hlo : (rest.map fun v => v.category).sum + (nativeFrameWords "java/lang/System" "arraycopy" 5 + 11) ≤ R.locals) (hd : decode mm.2.1 pc = .ok (.invokestatic idx, 3))
    (kk : ∀ h2 : aH, h2 a = some (.inl (0, n1, .inl (va_cpy f g sp dp n))) → (∀ b : Nat, b ≠ a → h2 b = h b) → aw G mm tb R Qf cells slots h2 nx (pc + 3) L rest) : aw G mm tb R Qf cells slots h nx pc L (.int (nI n) :: .int (nI dp) :: .ref a :: .int (nI sp) :: .ref a0 :: rest) := by
  intro p l e s m args below meth c H locs ls C RR Z S V
  have C0 := id C
  obtain ⟨hx, hb, hml, hown, hts, hr, hlk, htb, ⟨hK, hKr⟩, hl2, hnm0⟩ := C0
  intro T hT X
  have cn : (nI n).toNatClampNeg = n := nI_clamp (by omega)
  have csp : (nI sp).toNatClampNeg = sp := nI_clamp (by omega)
  have cdp : (nI dp).toNatClampNeg = dp := nI_clamp (by omega)
  have tn : (nI n).toInt = (n : Int) := nI_toInt (by omega)
  have tsp : (nI sp).toInt = (sp : Int) := nI_toInt (by omega)
  have tdp : (nI dp).toInt = (dp : Int) := nI_toInt (by omega)
  have hc0 : H[a0]? = some (vp_cell (G.2.1 0) (n0, .inl f)) := RR.1 a0 _ hs9
  have hc1 : H[a]? = some (vp_cell (G.2.1 0) (n1, .inl g)) := RR.1 a _ hd9
  obtain ⟨-, k0, hk0, cm0, hkk0⟩ := (hK.2 0 _ rfl).1 n0 (fun j => .int (f j))
  obtain ⟨-, k1, hk1, cm1, hkk1⟩ := (hK.2 0 _ rfl).1 n1 (fun j => .int (g j))
  obtain ⟨vm', X', step⟩ := X.arraycopy hx hown (hts _ (aWd_of hl rfl)) (hts _ (aWd_of hna rfl)) (hts _ (aWd_of hst rfl)) (hts _ (aWd_of hi rfl)) (src := a0) (dst := a) (cs := vp_cell (G.2.1 0) (n0, .inl f)) (cd := vp_cell (G.2.1 0) (n1, .inl g)) (srcPos := nI sp) (destPos := nI dp) (n := nI n) (by rw [hT]; exact hc0) (by rw [hT]; exact hc1)
    (fun _ h => by cases h) (fun _ h => by cases h) (fun h => by cases h) (fun h => by cases h) hk0 hk1 hkk0 hkk1 (by simp [refKind]) (nI_pos (by omega)) (nI_pos (by omega)) (nI_pos (by omega))
    (by rw [tsp, tn]; show ¬ _ > ((arrV (G.2.1 0) n0 (fun j => .int (f j))).slots.size : Int); rw [arrV_size]; omega)
    (by rw [tdp, tn]; show ¬ _ > ((arrV (G.2.1 0) n1 (fun j => .int (g j))).slots.size : Int); rw [arrV_size]; omega)
    (fun vm₁ _ i hi => by
      rw [cn] at hi
      have e : (vp_cell (G.2.1 0) (n0, .inl f)).slots.getD ((nI sp).toNatClampNeg + i) .null = .int (f ((nI sp).toNatClampNeg + i)) := by
        show (arrV (G.2.1 0) n0 (fun j => .int (f j))).slots.getD _ _ = _
        rw [Array.getD_eq_getD_getElem?, arrV_read _ _ (by rw [csp]; omega)]
        rfl
      refine ⟨?_, ?_⟩
      · rw [e]
        rfl
      · rw [e]
        exact trivial)
    (g := F0 m pc ls (.int (nI n) :: .int (nI dp) :: .ref a :: .int (nI sp) :: .ref a0 :: rest)) rfl (V.1.trans hml.symm) (rest := rest) rfl (by rw [hb]; exact hd) hfr (by show 2 * 0 + _ + _ ≤ _; omega)
  have e1 : copied (vp_cell (G.2.1 0) (n0, .inl f)) (vp_cell (G.2.1 0) (n1, .inl g)) (nI sp) (nI dp) (nI n) = vp_cell (G.2.1 0) (n1, .inl (va_cpy f g sp dp n)) := by
    have e9 : copied (vp_cell (G.2.1 0) (n0, .inl f)) (vp_cell (G.2.1 0) (n1, .inl g)) (nI sp) (nI dp) (nI n) = vp_cell (G.2.1 0) (n1, .inl (va_cpy f g (nI sp).toNatClampNeg (nI dp).toNatClampNeg (nI n).toNatClampNeg)) := va_copied (fun z => .int z) _ _ f g (by rw [csp, cn]; exact h4)
    rw [csp, cdp, cn] at e9
    exact e9
  rw [e1] at X' step
  have hl9 : a < H.size := (Array.getElem?_eq_some_iff.mp hc1).1
  have hheap : ((T.setVm vm').setCell a (vp_cell (G.2.1 0) (n1, .inl (va_cpy f g sp dp n)))).heap = H.setIfInBounds a (vp_cell (G.2.1 0) (n1, .inl (va_cpy f g sp dp n))) := by rw [← hT]; rfl
  have oq : ∀ q : Nat, q ≠ a → (H.setIfInBounds a (vp_cell (G.2.1 0) (n1, .inl (va_cpy f g sp dp n))))[q]? = H[q]? := fun q hq => by simp [Array.getElem?_setIfInBounds, Ne.symm hq]
  have hbs := RR.2 a _ hd9
  obtain ⟨t, a1, b1⟩ := kk (hw h a (.inl (0, n1, .inl (va_cpy f g sp dp n)))) hw_s (fun _ n => hw_n n) p l e s m args below meth c _ _ ls C
    (aRep_set RR (show (H.setIfInBounds a _)[a]? = some _ by simp [Array.getElem?_setIfInBounds, hl9]) hbs oq) (by simp; exact Z) ⟨by simp; exact S.1, fun q g1 g2 => by
      rw [oq q (fun e => g2 (by rw [e]; exact hbs))]
      exact S.2.1 q g1 g2, fun q hq => by
      rcases List.mem_append.mp hq with h | h
      · exact S.2.2 q h
      · obtain ⟨z, -, hz⟩ := List.mem_map.mp h
        rw [← hz]
        exact hbs⟩ V _ hheap X'
  exact ⟨t, step t a1, b1⟩
end ACOPY
/-! ===== lists of codes; the class's Row ===== -/
/-- same but for w addresses from r on -/
def aOff (h h' : aH) (r w : Nat) : Prop := ∀ a : Nat, (a < r ∨ r + w ≤ a) → h' a = h a
theorem aOff.rf {h : aH} {r w : Nat} : aOff h h r w := fun _ _ => rfl
theorem aOff.tr {h h1 h2 : aH} {r w : Nat} (a : aOff h h1 r w) (b : aOff h1 h2 r w) : aOff h h2 r w := fun q hq => (b q hq).trans (a q hq)
theorem aOff.mono {h h1 : aH} {r w r2 w2 : Nat} (a : aOff h h1 r w) (e1 : r2 ≤ r) (e2 : r + w ≤ r2 + w2) : aOff h h1 r2 w2 := fun q hq => a q (by omega)
/-- a Row at r (its arrays behind it) that holds the codes l: twice the number, plus 1 if it is turned over -/
def RowAt (h : aH) (r : Nat) (l : List Nat) : Prop := ∃ f g : Nat → Int32, h r = some (.inr (3, [.ref (r + 1), .ref (r + 2), .int (nI l.length)])) ∧ h (r + 1) = some (.inl (0, 16, .inl f)) ∧ h (r + 2) = some (.inl (0, 16, .inl g)) ∧ l.length ≤ 16 ∧ ∀ i, i < l.length → f i = nI (l.getD i 0)
theorem RowAt.keep {h h1 : aH} {r : Nat} {l : List Nat} (R : RowAt h r l) (o : ∀ a, r ≤ a → a < r + 3 → h1 a = h a) : RowAt h1 r l := by
  obtain ⟨f, g, e1, e2, e3, e4, e5⟩ := R
  exact ⟨f, g, (o _ (by omega) (by omega)).trans e1, (o _ (by omega) (by omega)).trans e2, (o _ (by omega) (by omega)).trans e3, e4, e5⟩
theorem RowAt.off {h h1 : aH} {r r2 w : Nat} {l : List Nat} (R : RowAt h r l) (o : aOff h h1 r2 w) (d : r + 3 ≤ r2 ∨ r2 + w ≤ r) : RowAt h1 r l := R.keep (fun a h1 h2 => o a (by omega))
/-- codes of n cards: each number below n, and small -/
def cOk (n : Nat) (l : List Nat) : Prop := l.length = n ∧ ∀ i, i < l.length → l.getD i 0 / 2 < n
theorem cOk.lt {n : Nat} {l : List Nat} (h : cOk n l) {i : Nat} (hi : i < n) : l.getD i 0 / 2 < n := h.2 i (by rw [h.1]; exact hi)
theorem r_f {b : Bool} (h : b = false) : (.inl (some (.int (nI 0))) : Option Value ⊕ String) = .inl (some (.int (bI b))) := by subst h; rfl
theorem r_t {b : Bool} (h : b = true) : (.inl (some (.int (nI 1))) : Option Value ⊕ String) = .inl (some (.int (bI b))) := by subst h; rfl
theorem r_i {x y : Int32} (h : x = y) : (.inl (some (.int x)) : Option Value ⊕ String) = .inl (some (.int y)) := by rw [h]
theorem r_n {x y : Nat} (h : x = y) : (.inl (some (.int (nI x))) : Option Value ⊕ String) = .inl (some (.int (nI y))) := by rw [h]
/-- half of a small number; its lowest bit -/
theorem n_half {c : Nat} (h : c < 2 ^ 31) : nI c >>> (nI 1 &&& 31) = nI (c / 2) := by
  have k := pk_shrN h (nI 1 &&& 31) 1 (by decide)
  rw [Nat.pow_one] at k
  exact k
theorem n_odd {c : Nat} (h : c < 2 ^ 31) : nI c &&& nI 1 = nI (c % 2) := by
  have k := pk_andN (n := c) (by omega) (m := nI 1) 1 (by decide)
  rw [Nat.pow_one] at k
  exact k
theorem l_small {n : Nat} {l : List Nat} (h : cOk n l) (hn : n ≤ 16) {i : Nat} (hi : i < l.length) : l.getD i 0 < 32 := by
  have := h.2 i hi
  omega
theorem gD_l {l : List Nat} {c i : Nat} (h : i < l.length) : (l ++ [c]).getD i 0 = l.getD i 0 := by simp [List.getD, List.getElem?_append_left h]
theorem gD_r {l : List Nat} {c : Nat} : (l ++ [c]).getD l.length 0 = c := by simp [List.getD]
theorem gD_eq {l : List Nat} {i : Nat} (h : i < l.length) : l.getD i 0 = l[i] := by simp [List.getD, List.getElem?_eq_getElem h]
theorem gD_map {l : List Nat} {i : Nat} {F : Nat → Nat} (h : i < l.length) : (l.map F).getD i 0 = F (l.getD i 0) := by simp [List.getD, List.getElem?_map, List.getElem?_eq_getElem h]
theorem gD_set {l : List Nat} {i j x : Nat} (h : i < l.length) : (l.set i x).getD j 0 = if j = i then x else l.getD j 0 := by
  by_cases q : j = i
  · subst q; simp [List.getD, h]
  · rw [if_neg q]; simp [List.getD, List.getElem?_set_ne (Ne.symm q)]
theorem l_ext {l m : List Nat} (h : l.length = m.length) (e : ∀ i, i < l.length → l.getD i 0 = m.getD i 0) : l = m := by
  apply List.ext_getElem h
  intro i h1 h2
  have := e i h1
  rw [gD_eq h1, gD_eq h2] at this
  exact this
/-- a row put through a shuffle -/
def fol (l s : List Nat) : List Nat := s.map (fun c => l.getD (c / 2) 0 ^^^ (c % 2))
theorem fol_len {l s : List Nat} : (fol l s).length = s.length := by simp [fol]
theorem fol_at {l s : List Nat} {i : Nat} (h : i < s.length) : (fol l s).getD i 0 = l.getD (s.getD i 0 / 2) 0 ^^^ (s.getD i 0 % 2) := gD_map h
theorem xor1_half (a b : Nat) (hb : b < 2) : (a ^^^ b) / 2 = a / 2 := by
  have e := Nat.xor_div_two (a := a) (b := b)
  rw [e, show b / 2 = 0 by omega, Nat.xor_zero]
theorem fol_cOk {n : Nat} {l s : List Nat} (hl : cOk n l) (hs : cOk n s) : cOk n (fol l s) := by
  refine ⟨by rw [fol_len]; exact hs.1, fun i hi => ?_⟩
  rw [fol_len] at hi
  rw [fol_at hi, xor1_half _ _ (by omega)]
  exact hl.lt (hs.2 i hi)
theorem nI_xor (a b : Nat) : nI a ^^^ nI b = nI (a ^^^ b) := by
  apply Int32.toBitVec_inj.mp
  simp [nI, Int32.ofNat]
  try rfl
/-- the place of a number -/
def ixOf (l : List Nat) (x : Nat) : Nat := l.findIdx (fun c => c / 2 == x)
theorem ixOf_eq {l : List Nat} {x j : Nat} (hj : j < l.length) (h1 : l.getD j 0 / 2 = x) (h2 : ∀ i, i < j → l.getD i 0 / 2 ≠ x) : ixOf l x = j := by
  unfold ixOf
  rw [List.findIdx_eq hj]
  refine ⟨by rw [← gD_eq hj, h1]; simp, fun i hi => ?_⟩
  have := h2 i hi
  rw [gD_eq (by omega)] at this
  simp [this]
/-- put through a shuffle k times, by doubling -/
def oft : Nat → List Nat → List Nat → Nat → List Nat
  | 0, l, _, _ => l
  | d + 1, l, s, k => if k = 0 then l else oft d (if k % 2 = 1 then fol l s else l) (fol s s) (k / 2)
/-- an array that keeps a row -/
def KeptAt (h : aH) (a : Nat) (l : List Nat) : Prop := ∃ f : Nat → Int32, h a = some (.inl (0, 16, .inl f)) ∧ ∀ i, i < l.length → f i = nI (l.getD i 0)
theorem KeptAt.keep {h h1 : aH} {a : Nat} {l : List Nat} (R : KeptAt h a l) (o : h1 a = h a) : KeptAt h1 a l := by
  obtain ⟨f, e1, e2⟩ := R
  exact ⟨f, o.trans e1, e2⟩
theorem aw_nx {G : aG} {mm : aM} {tb : List (Nat × Nat × Nat × Nat)} {R : Room} {Qf : aQf} {cells slots : Nat} {h : aH} {nx nx' pc : Nat} {L : aL} {st : List Value} (e : nx = nx') (kk : aw G mm tb R Qf cells slots h nx' pc L st) : aw G mm tb R Qf cells slots h nx pc L st := by
  subst e; exact kk
/-! numbers that the answers are told in -/
def ct (p : Nat → Bool) : Nat → Nat
  | 0 => 0
  | n + 1 => ct p n + (if p n then 1 else 0)
theorem ct_le (p : Nat → Bool) (n : Nat) : ct p n ≤ n := by
  induction n with
  | zero => exact Nat.le_refl _
  | succ n ih => simp only [ct]; split <;> omega
theorem ct_t {p : Nat → Bool} {n : Nat} (h : p n = true) : ct p (n + 1) = ct p n + 1 := by simp [ct, h]
theorem ct_f {p : Nat → Bool} {n : Nat} (h : p n = false) : ct p (n + 1) = ct p n := by simp [ct, h]
theorem ct_cong {p q : Nat → Bool} {n : Nat} (h : ∀ k, k < n → p k = q k) : ct p n = ct q n := by
  induction n with
  | zero => rfl
  | succ n ih => simp only [ct]; rw [ih (fun k hk => h k (by omega)), h n (by omega)]
def sm (f : Nat → Nat) : Nat → Nat
  | 0 => 0
  | n + 1 => sm f n + f n
theorem sm_le {f : Nat → Nat} {c n : Nat} (h : ∀ k, k < n → f k ≤ c) : sm f n ≤ n * c := by
  induction n with
  | zero => simp [sm]
  | succ n ih => simp only [sm]; have := ih (fun k hk => h k (by omega)); have := h n (by omega); rw [Nat.succ_mul]; omega
theorem sm_cong {f g : Nat → Nat} {n : Nat} (h : ∀ k, k < n → f k = g k) : sm f n = sm g n := by
  induction n with
  | zero => rfl
  | succ n ih => simp only [sm]; rw [ih (fun k hk => h k (by omega)), h n (by omega)]
/-- the card at a position -/
abbrev cd (l : List Nat) (i : Nat) : Nat := l.getD i 0 / 2
/-- whether its face is up -/
abbrev up (l : List Nat) (i : Nat) : Bool := decide (l.getD i 0 % 2 = 1)
def invs (l : List Nat) (n : Nat) : Nat := sm (fun k => ct (fun j => decide (k < j) && decide (cd l j < cd l k)) n) n
def runs (l : List Nat) (n : Nat) : Nat := 1 + ct (fun i => decide (ixOf l (i + 1) < ixOf l i)) (n - 1)
def ups (l : List Nat) (n : Nat) : Nat := ct (fun i => up l i) n
def ndr (r : Nat) : Nat := if r ≤ 1 then 0 else if r ≤ 2 then 1 else if r ≤ 4 then 2 else if r ≤ 8 then 3 else 4
def fixs (l : List Nat) (n : Nat) : Nat := ct (fun i => decide (cd l i = i)) n
/-- the residues of g places from s on, as bits -/
def msk (l : List Nat) (s g : Nat) : Nat → Nat
  | 0 => 0
  | i + 1 => msk l s g i ||| 2 ^ (cd l (s + i) % g)
def grps (l : List Nat) (n g : Nat) : Bool := decide (∀ k, k < n → g * k + g ≤ n → msk l (g * k) g g = 2 ^ g - 1)
def mnp (l : List Nat) : Nat → Nat
  | 0 => cd l 0
  | k + 1 => min (mnp l k) (cd l (k + 1))
def mxp (l : List Nat) : Nat → Nat
  | 0 => cd l 0
  | k + 1 => max (mxp l k) (cd l (k + 1))
def whol (l : List Nat) (n : Nat) : Bool := decide (∀ k, k < n → mxp l k - mnp l k = k)
def mirr (l : List Nat) (n : Nat) : Bool := decide (∀ k, k < n → cd l k + cd l (n - 1 - k) = n - 1)
/-- the places whose card is a or more, as bits -/
def plf (l : List Nat) (a : Nat) : Nat → Nat
  | 0 => 0
  | k + 1 => plf l a k ||| (if a ≤ cd l k then 2 ^ k else 0)
theorem ct_0 {p : Nat → Bool} {n : Nat} (h : ∀ k, k < n → p k = false) : ct p n = 0 := by
  induction n with
  | zero => rfl
  | succ n ih => rw [ct_f (h n (by omega)), ih (fun k hk => h k (by omega))]
theorem le_s {i : Nat} {P : Nat → Prop} (h : ∀ k, k < i → P k) (hi : P i) : ∀ k, k < i + 1 → P k := fun k hk => by
  rcases Nat.lt_or_ge k i with q | q
  · exact h k q
  · rw [show k = i by omega]; exact hi
theorem n_or (a b : Nat) : nI a ||| nI b = nI (a ||| b) := by
  apply Int32.toBitVec_inj.1
  show BitVec.ofNat 32 a ||| BitVec.ofNat 32 b = BitVec.ofNat 32 (a ||| b)
  apply BitVec.eq_of_getLsbD_eq
  intro i hi
  simp [hi]
theorem n_shl1 : ∀ k, k < 31 → nI 1 <<< (nI k &&& 31) = nI (2 ^ k) := by decide +kernel
theorem msk_lt {l : List Nat} {s g : Nat} (hg : 0 < g) (i : Nat) : msk l s g i < 2 ^ g := by
  induction i with
  | zero => exact Nat.two_pow_pos g
  | succ i ih => exact Nat.or_lt_two_pow ih (Nat.pow_lt_pow_right (by decide) (Nat.mod_lt _ hg))
theorem plf_lt {l : List Nat} {a : Nat} (k : Nat) : plf l a k < 2 ^ k := by
  induction k with
  | zero => exact Nat.two_pow_pos 0
  | succ k ih =>
    have e : 2 ^ k < 2 ^ (k + 1) := Nat.pow_lt_pow_right (by decide) (by omega)
    refine Nat.or_lt_two_pow (by omega) ?_
    split
    · exact e
    · exact Nat.two_pow_pos _
theorem n_max (a b : Nat) (ha : a < 2 ^ 31) (hb : b < 2 ^ 31) : (if nI a < nI b then nI b else nI a) = nI (max a b) := by
  by_cases q : a < b
  · rw [if_pos (nI_lt q hb), Nat.max_eq_right (by omega)]
  · rw [if_neg (nI_nlt (by omega) ha), Nat.max_eq_left (by omega)]
theorem n_min (a b : Nat) (ha : a < 2 ^ 31) (hb : b < 2 ^ 31) : (if nI b < nI a then nI b else nI a) = nI (min a b) := by
  by_cases q : b < a
  · rw [if_pos (nI_lt q ha), Nat.min_eq_right (by omega)]
  · rw [if_neg (nI_nlt (by omega) hb), Nat.min_eq_left (by omega)]
theorem mnp_le {l : List Nat} (k : Nat) : mnp l k ≤ mxp l k := by
  induction k with
  | zero => exact Nat.le_refl _
  | succ k ih => simp only [mnp, mxp]; omega
theorem mxp_lt {n : Nat} {l : List Nat} (hc : cOk n l) (k : Nat) (hk : k < n) : mxp l k < n := by
  induction k with
  | zero => exact hc.lt hk
  | succ k ih => simp only [mxp]; have := ih (by omega); have := hc.lt hk; unfold cd; omega
/-- all numbers below n are there -/
def cAll (n : Nat) (l : List Nat) : Prop := ∀ x, x < n → ∃ j, j < l.length ∧ l.getD j 0 / 2 = x
theorem ixOf_lt {l : List Nat} {x : Nat} (h : ∃ j, j < l.length ∧ l.getD j 0 / 2 = x) : ixOf l x < l.length := by
  obtain ⟨j, hj, hx⟩ := h
  exact List.findIdx_lt_length_of_exists ⟨l[j], List.getElem_mem hj, by rw [← gD_eq hj, hx]; simp⟩
/-- a method that the machine has no entry for, of a class that has entries -/
theorem aMet_ofF {G : aG} {mm : aM} {k mc ms : Nat} {as : List Value} {h : aH} {nx : Nat} {po : aPost} (hy : plainFor mm.1 = true) (hn : (lg_sl as).length ≤ mm.2.2.1)
    (body : aw G mm [] (aRoom k mc ms) (aEnd G po mc ms) 0 0 h nx 0 (lv_args 0 as) []) : aMet G mm k mc ms as h nx po := by
  intro l hl
  refine MetFree.of_bodySF (code := mm.2.1) (maxLocals := mm.2.2.1) (ret := mm.2.2.2) hy ?_ ?_
  · intro args s m h hn
    obtain ⟨meth, c, h1, h2, h3, h4, h5, h6, -, -⟩ := Cond.code_spec hn (atoms_spec (ws := aws mm) h _ List.mem_cons_self)
    exact ⟨meth, c, h1, h2, h3, h4, h5, h6⟩
  · intro p e s m args below meth c s₁ B hml hp _
    have hh0 : s₁.heap = s.heap := by rw [B.state]; rfl
    obtain ⟨rfl, hR, hz, hK⟩ := hp
    have hts := atoms_spec (ws := aws mm) B.pre
    have ht' : c.exceptionTable.toList = tableOf [] := by
      obtain ⟨meth9, c9, h1, h2, -, -, -, -, h7, -⟩ := Cond.code_spec B.named (hts _ List.mem_cons_self)
      cases Option.some.inj (h1.symm.trans B.method)
      cases Option.some.inj (h2.symm.trans (Stand.of_body B).code)
      rw [Array.isEmpty_iff.mp h7]
      rfl
    have he := lv_entry as (n := mm.2.2.1) hn
    have w := body p l e s m _ below meth c s.heap [] _ ⟨B.exec, B.bytes, hml, findClass_of_methodNamed B.named, fun w hw => hts w (List.mem_cons_of_mem _ hw), B.returns, B.notSynchronized, ht', hK, hl, (name_of_methodNamed B.named B.method).1⟩ hR hz va_S.rf he
    rw [← lg_entry_eq] at w
    obtain ⟨t, a1, o, b1, b2, b3⟩ := w s₁ hh0 (Stand.of_body B)
    exact ⟨t, o, a1, b1, b2, b3⟩
