/-! ===== the state stays as the place keeps it ===== -/
theorem dkOk.mono {c c1 : Nat} {d : aDk} (h : dkOk c d) (hc : c ≤ c1) : dkOk c1 d := ⟨h.1, h.2.1, h.2.2.1, h.2.2.2.1, h.2.2.2.2.1, Nat.le_trans h.2.2.2.2.2 hc⟩
theorem sgOk.mono {c c1 : Nat} {σ : aSg} (h : sgOk c σ) (hc : c ≤ c1) : sgOk c1 σ := ⟨h.1, h.2.1, Nat.le_trans h.2.2.1 hc, fun i hi => (h.2.2.2.1 i hi).mono hc, h.2.2.2.2⟩
theorem sgOk.set {c c1 t i : Nat} {σ : aSg} {d : aDk} (h : sgOk c σ) (hc : c ≤ c1) (ht : t ≤ c1) (hd : i < σ.1.length → dkOk c1 d) : sgOk c1 (σ.1.set i d, σ.2.1, t) := by
  refine ⟨by simp only [List.length_set]; exact h.1, h.2.1, ht, fun j hj => ?_, h.2.2.2.2⟩
  simp only [List.length_set] at hj
  by_cases z : j = i
  · subst z
    have e9 : (σ.1.set j d).getD j dk0 = d := by simp [List.getD, hj]
    show dkOk c1 ((σ.1.set j d).getD j dk0)
    rw [e9]; exact hd hj
  · have e9 : (σ.1.set i d).getD j dk0 = σ.1.getD j dk0 := by simp [List.getD, List.getElem?_set_ne (Ne.symm z)]
    show dkOk c1 ((σ.1.set i d).getD j dk0)
    rw [e9]; exact (h.2.2.2.1 j hj).mono hc
theorem putD_ok {c t : Nat} {d : aDk} {s : List Nat} (h : dkOk c d) (hs : cOk d.1.length s) (ha : cAll d.1.length s) : dkOk (c + 1) (putD d s t) := by
  obtain ⟨h1, h2, h3, h4, h5, h6⟩ := h
  have e := oft_cOk (d := 20) (k := t) h2 hs
  have e2 := oft_cAll (d := 20) (k := t) h2 h3 hs ha
  have el : (putD d s t).1.length = d.1.length := e.1
  refine ⟨by rw [el]; exact h1, by rw [el]; exact e, by rw [el]; exact e2, ?_, ?_, ?_⟩
  · intro m hm
    rw [el]
    rcases List.mem_cons.mp (List.mem_of_mem_take hm) with rfl | q
    · exact ⟨h2, h3⟩
    · exact h4 m q
  · show ((d.1 :: d.2.1).take 40).length ≤ 40
    simp; omega
  · show d.2.2 + 1 ≤ c + 1
    omega
theorem set_cOk {n i : Nat} {l : List Nat} (hc : cOk n l) : cOk n (l.set i (l.getD i 0 ^^^ 1)) := by
  refine ⟨by rw [List.length_set]; exact hc.1, fun j hj => ?_⟩
  rw [List.length_set] at hj
  by_cases hi : i < l.length
  · rw [gD_set hi]
    by_cases z : j = i
    · rw [if_pos z, xor1_half _ _ (by decide)]; exact hc.2 i hi
    · rw [if_neg z]; exact hc.2 j hj
  · rw [List.set_eq_of_length_le (by omega)]; exact hc.2 j hj
theorem set_cAll {n i : Nat} {l : List Nat} (ha : cAll n l) : cAll n (l.set i (l.getD i 0 ^^^ 1)) := by
  intro x hx
  obtain ⟨j, hj, e⟩ := ha x hx
  refine ⟨j, by rw [List.length_set]; exact hj, ?_⟩
  by_cases hi : i < l.length
  · rw [gD_set hi]
    by_cases z : j = i
    · rw [if_pos z, xor1_half _ _ (by decide), ← z]; exact e
    · rw [if_neg z]; exact e
  · rw [List.set_eq_of_length_le (by omega)]; exact e
theorem turnD_ok {c i : Nat} {d : aDk} (h : dkOk c d) : dkOk c (turnD d i) := by
  obtain ⟨h1, h2, h3, h4, h5, h6⟩ := h
  have el : (turnD d i).1.length = d.1.length := by simp [turnD]
  exact ⟨by rw [el]; exact h1, by rw [el]; exact set_cOk h2, by rw [el]; exact set_cAll h3, by rw [el]; exact h4, h5, h6⟩
theorem backD_ok {c : Nat} {d : aDk} (h : dkOk c d) (hp : d.2.1 ≠ []) : dkOk c (backD d) := by
  obtain ⟨h1, h2, h3, h4, h5, h6⟩ := h
  obtain ⟨l, ps, sc⟩ := d
  cases ps with
  | nil => exact absurd rfl hp
  | cons m ps =>
    have hm := h4 m (by simp)
    have el : m.length = l.length := hm.1.1
    refine ⟨?_, ?_, ?_, ?_, ?_, ?_⟩
    · show 2 ≤ m.length ∧ m.length ≤ 16; rw [el]; exact h1
    · show cOk m.length m; rw [el]; exact hm.1
    · show cAll m.length m; rw [el]; exact hm.2
    · intro k hk
      show cOk m.length k ∧ cAll m.length k
      rw [el]; exact h4 k (List.mem_cons_of_mem _ hk)
    · show ps.length ≤ 40
      have : (m :: ps).length ≤ 40 := h5
      simp at this; omega
    · show sc - 1 ≤ c
      have : sc ≤ c := h6
      omega
theorem inD_lt {σ : aSg} {x : Int32} (h : inD σ x = true) : x.toInt.toNat < σ.1.length := by
  have := of_decide_eq_true h
  omega
theorem inS_lt {σ : aSg} {x : Int32} (h : inS σ x = true) : x.toInt.toNat < σ.2.1.length := by
  have := of_decide_eq_true h
  omega
theorem k_deck {c : Nat} {σ : aSg} (h : sgOk c σ) (x : Int32) : sgOk (c + 1) (sDeck σ x).2 := by
  unfold sDeck
  by_cases h1 : wIn x 2 16 = true
  · rw [if_pos h1]
    by_cases h2 : σ.1.length < 4
    · rw [if_pos h2]
      obtain ⟨n, hn1, hn2, rfl⟩ := wIn_nat (a := 2) (b := 16) h1 (by omega)
      rw [nI_nat (by omega)]
      refine ⟨by simp; omega, h.2.1, Nat.le_trans h.2.2.1 (by omega), fun j hj => ?_, h.2.2.2.2⟩
      by_cases z : j = σ.1.length
      · subst z
        have e9 : (σ.1 ++ [(idL n, [], 0)]).getD σ.1.length dk0 = (idL n, [], 0) := by simp [List.getD]
        show dkOk (c + 1) ((σ.1 ++ [(idL n, [], 0)]).getD σ.1.length dk0)
        rw [e9]
        exact ⟨by rw [idL_len]; omega, by rw [idL_len]; exact idL_cOk, by rw [idL_len]; exact idL_cAll, fun m hm => absurd hm List.not_mem_nil, by simp, Nat.zero_le _⟩
      · have hj2 : j < σ.1.length := by simp at hj; omega
        have e9 : (σ.1 ++ [(idL n, [], 0)]).getD j dk0 = σ.1.getD j dk0 := by simp [List.getD, List.getElem?_append_left hj2]
        show dkOk (c + 1) ((σ.1 ++ [(idL n, [], 0)]).getD j dk0)
        rw [e9]; exact (h.2.2.2.1 j hj2).mono (by omega)
    · rw [if_neg h2]; exact h.mono (by omega)
  · rw [if_neg h1]; exact h.mono (by omega)
theorem k_shuffle {c : Nat} {σ : aSg} (h : sgOk c σ) (x k m t : Int32) : sgOk (c + 1) (sShuffle σ x k m t).2 := by
  unfold sShuffle
  split
  · rename_i h1
    split
    · rename_i h2
      split
      · exact h.set (by omega) (Nat.le_trans h.2.2.1 (by omega)) (fun hi => putD_ok (h.2.2.2.1 _ hi) (lay_cOkI h2) (lay_cAllI h2))
      · exact h.mono (by omega)
    · exact h.mono (by omega)
  · exact h.mono (by omega)
theorem k_undo {c : Nat} {σ : aSg} (h : sgOk c σ) (x : Int32) : sgOk (c + 1) (sUndo σ x).2 := by
  unfold sUndo
  split
  · split
    · exact h.mono (by omega)
    · rename_i h2
      exact h.set (by omega) (by have := h.2.2.1; omega) (fun hi => (backD_ok (h.2.2.2.1 _ hi) h2).mono (by omega))
  · exact h.mono (by omega)
theorem k_turn {c : Nat} {σ : aSg} (h : sgOk c σ) (x p : Int32) : sgOk (c + 1) (sTurn σ x p).2 := by
  unfold sTurn
  split
  · split
    · exact h.set (by omega) (Nat.le_trans h.2.2.1 (by omega)) (fun hi => (turnD_ok (h.2.2.2.1 _ hi)).mono (by omega))
    · exact h.mono (by omega)
  · exact h.mono (by omega)
theorem k_perform {c : Nat} {σ : aSg} (h : sgOk c σ) (x y t : Int32) : sgOk (c + 1) (sPerform σ x y t).2 := by
  unfold sPerform
  split
  · split
    · split
      · split
        · exact h.mono (by omega)
        · rename_i s hs
          exact h.set (by omega) (Nat.le_trans h.2.2.1 (by omega)) (fun hi => putD_ok (h.2.2.2.1 _ hi) (seqL_cOk hs) (seqL_cAll hs))
      · exact h.mono (by omega)
    · exact h.mono (by omega)
  · exact h.mono (by omega)
theorem k_sequence {c : Nat} {σ : aSg} (h : sgOk c σ) : sgOk (c + 1) (sSequence σ).2 := by
  unfold sSequence
  split
  · refine ⟨h.1, by simp; omega, Nat.le_trans h.2.2.1 (by omega), fun i hi => (h.2.2.2.1 i hi).mono (by omega), fun j hj => ?_⟩
    by_cases y : j < σ.2.1.length
    · have e9 : (σ.2.1 ++ [[]]).getD j [] = σ.2.1.getD j [] := by simp [List.getD, List.getElem?_append_left y]
      show stOk ((σ.2.1 ++ [[]]).getD j [])
      rw [e9]; exact h.2.2.2.2 j y
    · have z : j = σ.2.1.length := by simp at hj; omega
      subst z
      have e9 : (σ.2.1 ++ [[]]).getD σ.2.1.length [] = [] := by simp [List.getD]
      show stOk ((σ.2.1 ++ [[]]).getD σ.2.1.length [])
      rw [e9]; exact ⟨Nat.zero_le _, fun i hi => absurd hi (Nat.not_lt_zero _)⟩
  · exact h.mono (by omega)
theorem sD_set {l : List aSt} {i : Nat} {s : aSt} (h : i < l.length) : (l.set i s).getD i [] = s := by simp [List.getD, h]
theorem sD_ne {l : List aSt} {i j : Nat} {s : aSt} (h : j ≠ i) : (l.set i s).getD j [] = l.getD j [] := by simp [List.getD, List.getElem?_set_ne (Ne.symm h)]
theorem k_step {c : Nat} {σ : aSg} (h : sgOk c σ) (x k m : Int32) : sgOk (c + 1) (sStep σ x k m).2 := by
  unfold sStep
  split
  · split
    · rename_i h2
      split
      · rename_i h3
        have h4 := Bool.and_eq_true_iff.mp h2
        have h5 := of_decide_eq_true h4.1
        refine ⟨h.1, by simp only [List.length_set]; exact h.2.1, Nat.le_trans h.2.2.1 (by omega), fun i hi => (h.2.2.2.1 i hi).mono (by omega), fun j hj => ?_⟩
        simp only [List.length_set] at hj
        by_cases z : j = x.toInt.toNat
        · subst z
          have e9 : (σ.2.1.set x.toInt.toNat (sqI σ x ++ [(k.toInt.toNat, m.toInt.toNat)])).getD x.toInt.toNat [] = sqI σ x ++ [(k.toInt.toNat, m.toInt.toNat)] := sD_set hj
          show stOk ((σ.2.1.set x.toInt.toNat (sqI σ x ++ [(k.toInt.toNat, m.toInt.toNat)])).getD x.toInt.toNat [])
          rw [e9]
          have h6 : stOk (sqI σ x) := h.2.2.2.2 _ hj
          refine ⟨by simp; omega, fun i hi => ?_⟩
          by_cases y : i < (sqI σ x).length
          · have e8 : (sqI σ x ++ [(k.toInt.toNat, m.toInt.toNat)]).getD i (0, 0) = (sqI σ x).getD i (0, 0) := by simp [List.getD, List.getElem?_append_left y]
            rw [e8]; exact h6.2 i y
          · have z2 : i = (sqI σ x).length := by simp at hi; omega
            subst z2
            have e8 : (sqI σ x ++ [(k.toInt.toNat, m.toInt.toNat)]).getD (sqI σ x).length (0, 0) = (k.toInt.toNat, m.toInt.toNat) := by simp [List.getD]
            rw [e8]
            have h7 := Int32.toInt_lt m
            exact ⟨by show k.toInt.toNat ≤ 9; omega, by show m.toInt.toNat < 2 ^ 31; omega⟩
        · have e9 : (σ.2.1.set x.toInt.toNat (sqI σ x ++ [(k.toInt.toNat, m.toInt.toNat)])).getD j [] = σ.2.1.getD j [] := sD_ne z
          show stOk ((σ.2.1.set x.toInt.toNat (sqI σ x ++ [(k.toInt.toNat, m.toInt.toNat)])).getD j [])
          rw [e9]; exact h.2.2.2.2 j hj
      · exact h.mono (by omega)
    · exact h.mono (by omega)
  · exact h.mono (by omega)
