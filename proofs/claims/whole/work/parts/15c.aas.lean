/-! ===== references put into the class's own arrays ===== -/
section AAAS
variable {G : aG} {mm : aM} {tb : List (Nat × Nat × Nat × Nat)} {R : Room} {Qf : aQf} {cells slots : Nat} {h : aH} {nx pc : Nat} {L : aL} {st : List Value}
theorem aw_aastX {kd ci n k a v : Nat} {r : vw_C} {fs : List Value} {f : Nat → Option Nat} (hf : h a = some (.inl (kd, n, .inr (.inr (.inr (.inr f)))))) (hty : ∀ dA, (atys dA)[kd]? = some (dA kd, .object r.1)) (hc : vwCl[ci]? = some r) (hv : h v = some (.inr (ci, fs))) (hk : k < n) (hn : n < 2 ^ 31) (hd : decode mm.2.1 pc = .ok (.aastore, 1))
    (kk : ∀ h2 : aH, h2 a = some (.inl (kd, n, .inr (.inr (.inr (.inr (va_up f k (some v))))))) → (∀ b : Nat, b ≠ a → h2 b = h b) → aw G mm tb R Qf cells slots h2 nx (pc + 1) L st) : aw G mm tb R Qf cells slots h nx pc L (.ref v :: .int (nI k) :: .ref a :: st) := by
  intro p l e s m args below meth c H locs ls C RR Z S V
  have hcn : (nI k).toNatClampNeg = k := nI_clamp (by omega)
  have hin := vp_in_nI hk hn
  have h0 : ¬ (nI k) < 0 := fun q => hin (Or.inl q)
  have hK := C.2.2.2.2.2.2.2.2.1.1
  obtain ⟨r', hr', cellV, g1, g2, g3, -⟩ := RR.1 v _ hv
  have hcls := (hK.1 ci r hc).2
  obtain ⟨kA, comp, k1, k2, k3, -⟩ := (hK.2 kd _ (hty G.2.1)).2
  have hcomp : comp = G.1.1 ci := Option.some.inj (k3.symm.trans hcls.1)
  subst hcomp
  obtain ⟨kC, hkC, -⟩ := hcls.2
  refine W.aast C.1 C.2.1 (RR.1 a _ hf) (fun q h => by cases h) (fun h => by cases h) k1 k2 rfl hkC ⟨h0, by show _ < (arrV _ _ _).slots.size; rw [arrV_size, hcn]; exact hk⟩ g1 (fun q h => by rw [g3] at h; cases h) (by rw [g2]; exact hkC) (by rw [g2]; exact va_assign hcls) rfl rfl hd fun H1 e1 z oq => ?_
  refine kk _ hw_s (fun _ n => hw_n n) p l e s m args below meth c H1 _ ls C (aRep_set RR ?_ (RR.2 a _ hf) oq) (z.trans Z) (S.put z oq (RR.2 a _ hf)) V
  show H1[a]? = some (vp_cell _ _)
  rw [e1]
  show some ((vp_cell _ (n, .inr (.inr (.inr (.inr f))))).setSlot _ _) = some (vp_cell _ (n, .inr (.inr (.inr (.inr (va_up f k (some v)))))))
  rw [vp_cell_q, vp_cell_q, hcn, arrV_store]
  congr 2
  funext q
  by_cases hq : q = k
  · subst hq
    simp [updV, va_up, va_rf]
  · simp [updV, va_up, hq]
end AAAS
