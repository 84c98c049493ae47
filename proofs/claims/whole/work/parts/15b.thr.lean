/-! ===== a throw whose text stands far back ===== -/
section ATHR
variable {G : aG} {mm mm' : aM} {tb : List (Nat × Nat × Nat × Nat)} {R : Room} {Qf : aQf} {cells slots mc ms k' : Nat} {h : aH} {nx pc idx n : Nat} {L : aL} {st rest As : List Value} {po : aPost} {b : Nat}
/-- 'throw new E("text")', the text by ldc_w -/
theorem aw_throwW {E text : String} {names : List String} {ik is ic : Nat} (hf : Bundle.fit E = true) (hns : ∀ n ∈ names, Bundle.fit n = true) (hk : Cond.classLink mm.1.cls ik E ∈ lw_tbl) (hini : Cond.initialized E ∈ lw_tbl) (hs : (mm.1.cls, is, text) ∈ aStr) (hat : ∀ w ∈ vx_atS mm.1.cls ic E names, w ∈ lw_tbl ∧ (goodWord w || aNk w) = true)
    (d0 : decode mm.2.1 pc = .ok (.new ik, 3)) (d3 : decode mm.2.1 (pc + 3) = .ok (.dup, 1)) (d4 : decode mm.2.1 (pc + 4) = .ok (.ldc_w is, 3)) (d6 : decode mm.2.1 (pc + 7) = .ok (.invokespecial ic, 3)) (d9 : decode mm.2.1 (pc + 10) = .ok (.athrow, 1)) (ho : ∀ x ∈ tableOf tb, covers x (pc + 10) = false)
    (hfr : names.length + 3 < R.frames) (hlo : (rest.map fun v => v.category).sum + (13 * (names.length + 1) + 43) ≤ R.locals) (h1 : cells + 1 ≤ R.cells) (h2 : slots + 6 ≤ R.slots) (hp : ∀ n1, nx ≤ n1 → po (.inr E) h n1) (h3 : cells + 1 ≤ mc) (h4 : slots + 6 ≤ ms) : aw G mm tb R (aEnd G po mc ms) cells slots h nx pc L rest := by
  intro p l e s m args below meth c H locs ls C RR Z S V
  have C0 := id C
  obtain ⟨hx, hb, hml, hown, hts, hr, hlk, htb, hK, hl2, hnm0⟩ := C0
  obtain ⟨sa, hsa⟩ := hK.2.2.1 _ hs
  have hg : ∀ w ∈ vx_atS mm.1.cls ic E names, vx_ot w = true := fun w hw => by
    have h9 := (hat w hw).2
    unfold vx_ot
    rw [Bool.or_eq_true] at h9 ⊢
    rcases h9 with h9 | h9
    · exact Or.inr h9
    · exact Or.inl (aNk_ot h9)
  refine vx_throwSW (names := names) hx hb hl2 hown hf hns (hts _ (aWd_of hk rfl)) (hts _ (aWd_of hini rfl)) hsa (fun w hw => ?_) (fun w hw => ?_) hK.2.2.2.2.1 hK.2.2.2.2.2.1 S (V.1.trans hml.symm) d0 d3 d4 d6 d9 (by rw [htb]; exact ho) hfr hlo h1 h2 hlk (fun t hv hz hq => ?_) S.2.2 h3 h4
  · have h9 := (hat w hw).2
    rw [Bool.or_eq_true] at h9
    rcases h9 with h9 | h9
    · exact hts _ (aWd_of (hat w hw).1 h9)
    · exact va_Nw.use (aNk_ot h9) (hK.2.1 _ (aWn_of (hat w hw).1 h9))
  · rcases List.mem_cons.mp hw with rfl | hw
    · rfl
    · rcases List.mem_cons.mp hw with rfl | hw
      · rfl
      · exact hg w hw
  · refine ⟨h, aRep_keep RR hq, hp _ (by rw [← Z]; exact hz), ?_⟩
    exact ⟨Nat.le_trans S.1 hz, fun q h5 h6 => (hq q (Nat.lt_of_lt_of_le h5 S.1)).trans (S.2.1 q h5 h6)⟩
/-- a callee that throws, where nothing catches -/
theorem aw_callVT {E : String} {q : vw_C} {ci mcc mss : Nat} {fs : List Value} (hM : aMet G mm' k' mcc mss (.ref b :: As) h nx (pT E h nx)) (ok : aOkV mm' n) (hl : Cond.methodLink mm.1.cls idx mm'.1 ∈ lw_tbl) (hf : h b = some (.inr (ci, fs))) (hc : vwCl[ci]? = some q) (hq : q.1 = mm'.1.cls) (hn : As.length = n) (hst : st = As.reverse ++ .ref b :: rest) (hcat : (rest.map fun v => v.category).sum ≤ 8) (hd : decode mm.2.1 pc = .ok (.invokevirtual idx, 3)) (hR : k' + 1 ≤ R.frames ∧ 8 + (mm'.2.2.1 + 11) + 40 * k' ≤ R.locals) (hcl : cells + mcc ≤ R.cells ∧ slots + mss ≤ R.slots)
    (h1 : cells + mcc ≤ mc) (h2 : slots + mss ≤ ms) (hp : ∀ n1, nx ≤ n1 → po (.inr E) h n1) : aw G mm [] R (aEnd G po mc ms) cells slots h nx pc L st :=
  aw_callV hM ok hl hf hc hq hn hst hcat hd hR hcl (fun v h1 n1 q _ => by obtain ⟨e1, -⟩ := q; cases e1) (fun E9 h9 n9 q _ => by obtain ⟨e1, e2, e3⟩ := q; cases e1; subst e2; exact awx_out (fun x hx => absurd hx List.not_mem_nil) (hp n9 e3) h1 h2)
theorem aw_callST {E : String} {mcc mss : Nat} (hM : aMet G mm' k' mcc mss As h nx (pT E h nx)) (ok : aOkS mm' n) (hl : Cond.methodLink mm.1.cls idx mm'.1 ∈ lw_tbl) (hn : As.length = n) (hst : st = As.reverse ++ rest) (hcat : (rest.map fun v => v.category).sum ≤ 8) (hd : decode mm.2.1 pc = .ok (.invokestatic idx, 3)) (hR : k' + 1 ≤ R.frames ∧ 8 + (mm'.2.2.1 + 11) + 40 * k' ≤ R.locals) (hcl : cells + mcc ≤ R.cells ∧ slots + mss ≤ R.slots)
    (h1 : cells + mcc ≤ mc) (h2 : slots + mss ≤ ms) (hp : ∀ n1, nx ≤ n1 → po (.inr E) h n1) : aw G mm [] R (aEnd G po mc ms) cells slots h nx pc L st :=
  aw_callS hM ok hl hn hst hcat hd hR hcl (fun v h1 n1 q _ => by obtain ⟨e1, -⟩ := q; cases e1) (fun E9 h9 n9 q _ => by obtain ⟨e1, e2, e3⟩ := q; cases e1; subst e2; exact awx_out (fun x hx => absurd hx List.not_mem_nil) (hp n9 e3) h1 h2)
end ATHR
abbrev xIAE : String := "java/lang/IllegalArgumentException"
abbrev xISE : String := "java/lang/IllegalStateException"
abbrev xIOB : String := "java/lang/IndexOutOfBoundsException"
abbrev xNs : List String := ["java/lang/RuntimeException", "java/lang/Exception"]
theorem xNs_fit : ∀ n ∈ xNs, Bundle.fit n = true := by decide +kernel
theorem at_IAE : ∀ w ∈ vx_atS "ShuffleHall" 44 xIAE xNs, w ∈ lw_tbl ∧ (goodWord w || aNk w) = true := by decide +kernel
theorem at_ISE : ∀ w ∈ vx_atS "ShuffleHall" 55 xISE xNs, w ∈ lw_tbl ∧ (goodWord w || aNk w) = true := by decide +kernel
theorem at_IOB : ∀ w ∈ vx_atS "ShuffleHall" 143 xIOB xNs, w ∈ lw_tbl ∧ (goodWord w || aNk w) = true := by decide +kernel
