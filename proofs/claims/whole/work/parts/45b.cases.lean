theorem k_card {c : Nat} {σ : aSg} (h : sgOk c σ) (x p : Int32) : sgOk (c + 1) (sCard σ x p).2 := by
  unfold sCard
  repeat' split
  all_goals exact h.mono (Nat.le_succ c)
theorem k_find {c : Nat} {σ : aSg} (h : sgOk c σ) (x p : Int32) (z : Bool) : sgOk (c + 1) (sFind σ x p z).2 := by
  unfold sFind
  repeat' split
  all_goals exact h.mono (Nat.le_succ c)
theorem k_ofDeck {c : Nat} {σ : aSg} (h : sgOk c σ) (x w : Int32) : sgOk (c + 1) (sOfDeck σ x w).2 := by
  unfold sOfDeck
  repeat' split
  all_goals exact h.mono (Nat.le_succ c)
theorem k_keeps {c : Nat} {σ : aSg} (h : sgOk c σ) (x w : Int32) : sgOk (c + 1) (sKeeps σ x w).2 := by
  unfold sKeeps
  repeat' split
  all_goals exact h.mono (Nat.le_succ c)
theorem k_chance {c : Nat} {σ : aSg} (h : sgOk c σ) (x k : Int32) : sgOk (c + 1) (sChance σ x k).2 := by
  unfold sChance
  repeat' split
  all_goals exact h.mono (Nat.le_succ c)
theorem k_far {c : Nat} {σ : aSg} (h : sgOk c σ) (x : Int32) : sgOk (c + 1) (sFar σ x).2 := by
  unfold sFar
  repeat' split
  all_goals exact h.mono (Nat.le_succ c)
theorem k_alike {c : Nat} {σ : aSg} (h : sgOk c σ) (x y : Int32) : sgOk (c + 1) (sAlike σ x y).2 := by
  unfold sAlike
  repeat' split
  all_goals exact h.mono (Nat.le_succ c)
theorem k_ofSequence {c : Nat} {σ : aSg} (h : sgOk c σ) (x w : Int32) : sgOk (c + 1) (sOfSeq σ x w).2 := by
  unfold sOfSeq
  repeat' split
  all_goals exact h.mono (Nat.le_succ c)
theorem k_period {c : Nat} {σ : aSg} (h : sgOk c σ) (x y : Int32) : sgOk (c + 1) (sPeriod σ x y).2 := by
  unfold sPeriod
  repeat' split
  all_goals exact h.mono (Nat.le_succ c)
theorem k_many {c : Nat} {σ : aSg} (h : sgOk c σ) (w : Int32) : sgOk (c + 1) (sMany σ w).2 := by
  unfold sMany
  repeat' split
  all_goals exact h.mono (Nat.le_succ c)
theorem k_toTop {c : Nat} {σ : aSg} (h : sgOk c σ) (x p : Int32) : sgOk (c + 1) (sToTop σ x p).2 := by
  unfold sToTop
  repeat' split
  all_goals exact h.mono (Nat.le_succ c)
theorem k_goes {c : Nat} {σ : aSg} (h : sgOk c σ) (x p k m : Int32) : sgOk (c + 1) (sGoes σ x p k m).2 := by
  unfold sGoes
  repeat' split
  all_goals exact h.mono (Nat.le_succ c)
theorem k_best {c : Nat} {σ : aSg} (h : sgOk c σ) (x : Int32) : sgOk (c + 1) (sBest σ x).2 := by
  unfold sBest
  repeat' split
  all_goals exact h.mono (Nat.le_succ c)
theorem k_riffle {c : Nat} {σ : aSg} (h : sgOk c σ) (x : Int32) : sgOk (c + 1) (sRiffle σ x).2 := by
  unfold sRiffle
  repeat' split
  all_goals exact h.mono (Nat.le_succ c)
set_option maxHeartbeats 4000000 in
set_option maxRecDepth 20000 in
theorem law_deck (G : aG) {b L q i c nx : Nat} {xs : Nat → Int32} {own : Nat → Nat} {h : aH} {σ : aSg} {th : Int32} {ce sl : Nat} (I : LInv G own h nx q c σ th) (hc9 : c ≤ 511) (hi : i + 5 ≤ L) (hL : L ≤ 2560) (hG : G.2.2.2 < q) (hce : ce + 893 ≤ 641004) (hsl : sl + 10108 ≤ 7173092) (K : ∀ (own1 : Nat → Nat) (h1 : aH) (nx1 : Nat) (σ1 : aSg) (th1 : Int32), LInv G own1 h1 nx1 q (c + 1) σ1 th1 → aw G mL_law [] room_1 (lawQ G b L xs) (ce + 893) (sl + 10108) h1 nx1 1650 [(0, .ref (b)), (1, .ref (q)), (2, .ref (q + 204)), (3, .ref (q + 207)), (4, .ref (q + 208)), (5, .int (nI (i)))] []) : aw G mL_law [] room_1 (lawQ G b L xs) ce sl h nx 148 [(0, .ref (b)), (1, .ref (q)), (2, .ref (q + 204)), (3, .ref (q + 207)), (4, .ref (q + 208)), (5, .int (nI (i)))] [] := by
  have I0 := I
  obtain ⟨hM, hH, hσ, hO1, ⟨hO2, hO3⟩, ⟨f0, hf0⟩, ⟨g0, hg0⟩, hnx⟩ := I0
  rcases o_deck σ (xs (i + 1)) with ⟨x9, hx9⟩ | hx9 | hx9
  · skip
    refine aw_aload_n dL_law_148 rfl ?_
    refine aw_aload_n dL_law_149 rfl ?_
    refine aw_iload dL_law_150 rfl ?_
    refine aw_ic dL_law_152 ic_1 ?_
    refine aw_iaddN dL_law_153 ?_
    refine aw_sld (by omega) hL dL_law_154 ?_
    refine aw_aload_n dL_law_155 rfl ?_
    refine aw_callH (As := [.ref (q), .int (xs (i + 1)), .ref (q + 207)]) (rest := []) (l_deck G hH hσ (by omega) (Or.inr (by omega)) hf0 (xs (i + 1))) kL_deck w_505 rfl rfl (Nat.le_of_ble_eq_true rfl) dL_law_156 ⟨Nat.le_of_ble_eq_true rfl, Nat.le_of_ble_eq_true rfl⟩ ⟨(show ce + 1 ≤ 641004 by omega), (show sl + 6 ≤ 7173092 by omega)⟩ (fun v1 h1 n1 p1 hn1 => ?_) (fun E h9 n9 p9 _ => by obtain ⟨e9, -⟩ := p9; cases e9)
    obtain ⟨pv1, -, pH, po, f1, pf, pval⟩ := p1
    have hv1 : v1 = some (.int (nI 0)) := by have e9 := pv1; rw [hx9] at e9; exact Sum.inl.inj e9
    subst hv1
    have hg1 := (po (q + 208) (Or.inr (by omega)) (by omega)).trans hg0
    have hM1 := I.A hn1 (fun b z1 z2 z3 => po b z1 z2)
    obtain ⟨s1, hm1⟩ := hM1.2.2.1
    refine aw_istore (L' := [(6, .int (nI (0))), (0, .ref (b)), (1, .ref (q)), (2, .ref (q + 204)), (3, .ref (q + 207)), (4, .ref (q + 208)), (5, .int (nI (i)))]) dL_law_159 (by decide) rfl ?_
    refine aw_aload_n dL_law_161 rfl ?_
    refine aw_aload_n dL_law_162 rfl ?_
    refine aw_iload dL_law_163 rfl ?_
    refine aw_ic dL_law_165 ic_1 ?_
    refine aw_iaddN dL_law_166 ?_
    refine aw_sld (by omega) hL dL_law_167 ?_
    refine aw_callV (As := [.int (xs (i + 1))]) (rest := []) (m_X9_deck G hM1 hσ (by omega) (by omega) (xs (i + 1))) kX9_deck w_750 hm1 rfl rfl rfl rfl (Nat.le_of_ble_eq_true rfl) dL_law_168 ⟨Nat.le_of_ble_eq_true rfl, Nat.le_of_ble_eq_true rfl⟩ ⟨(show ce + 1 + 6 ≤ 641004 by omega), (show sl + 6 + 103 ≤ 7173092 by omega)⟩ (fun v2 h2 n2 p2 hn2 => ?_) (fun E h9 n9 p9 _ => by obtain ⟨e9, -⟩ := p9; cases e9)
    have hv2 : v2 = some (.int (x9)) := by have e9 := p2.1; rw [hx9] at e9; exact Sum.inl.inj e9
    obtain ⟨own2, I2, pf2, pg2⟩ := I.B hn1 pH pf hg1 (k_deck hσ (xs (i + 1))) p2
    rw [hx9] at I2
    have I3 : LInv G own2 h2 n2 q (c + 1) _ (nI 0) := I2
    subst hv2
    obtain ⟨s3, hm3⟩ := I3.1.2.2.1
    refine aw_istore (L' := [(7, .int (x9)), (6, .int (nI (0))), (0, .ref (b)), (1, .ref (q)), (2, .ref (q + 204)), (3, .ref (q + 207)), (4, .ref (q + 208)), (5, .int (nI (i)))]) dL_law_171 (by decide) rfl ?_
    refine aw_aload_n dL_law_173 rfl ?_
    refine aw_callVR (As := []) (rest := []) (c_X9_thrown G hm3) kX9_thrown w_746 hm3 rfl rfl rfl rfl (Nat.le_of_ble_eq_true rfl) dL_law_174 ⟨Nat.le_of_ble_eq_true rfl, Nat.le_of_ble_eq_true rfl⟩ ⟨(show ce + 1 + 6 + 0 ≤ 641004 by omega), (show sl + 6 + 103 + 0 ≤ 7173092 by omega)⟩ ?_
    refine aw_iload dL_law_177 rfl ?_
    refine aw_icmp_eqN (tgt := 184) (by omega) (by omega) dL_law_179 (by decide) (fun cz => ?_) (fun cz => absurd cz (by omega))
    refine aw_iload dL_law_184 rfl ?_
    refine aw_if_neN (tgt := 201) (by omega) dL_law_186 (by decide) (fun cy => absurd cy (by omega)) (fun cy => ?_)
    refine aw_aload_n dL_law_189 rfl ?_
    refine aw_ic dL_law_190 ic_0 ?_
    refine aw_laload pf2 (by omega) (by omega) dL_law_191 ?_
    refine aw_iload dL_law_192 rfl ?_
    refine aw_i2l dL_law_194 ?_
    refine aw_lcmp dL_law_195 ?_
    refine aw_top (show (lg_cmp (f1 0) ((x9)).toInt64) = (nI (0)) from (by rw [pval x9 hx9]; exact lg_self _)) ?_
    refine aw_if_eqN (tgt := 201) (by omega) dL_law_196 (by decide) (fun cx => ?_) (fun cx => absurd cx (by omega))
    refine aw_goto (tgt := 1650) dL_law_201 (by decide) ?_
    refine aw_widen (cells' := ce + 893) (slots' := sl + 10108) (by omega) (by omega) ?_
    refine aw_sub (L' := [(0, .ref (b)), (1, .ref (q)), (2, .ref (q + 204)), (3, .ref (q + 207)), (4, .ref (q + 208)), (5, .int (nI (i)))]) [2, 3, 4, 5, 6, 7] rfl ?_
    exact K _ _ _ _ _ I3
  · skip
    refine aw_aload_n dL_law_148 rfl ?_
    refine aw_aload_n dL_law_149 rfl ?_
    refine aw_iload dL_law_150 rfl ?_
    refine aw_ic dL_law_152 ic_1 ?_
    refine aw_iaddN dL_law_153 ?_
    refine aw_sld (by omega) hL dL_law_154 ?_
    refine aw_aload_n dL_law_155 rfl ?_
    refine aw_callH (As := [.ref (q), .int (xs (i + 1)), .ref (q + 207)]) (rest := []) (l_deck G hH hσ (by omega) (Or.inr (by omega)) hf0 (xs (i + 1))) kL_deck w_505 rfl rfl (Nat.le_of_ble_eq_true rfl) dL_law_156 ⟨Nat.le_of_ble_eq_true rfl, Nat.le_of_ble_eq_true rfl⟩ ⟨(show ce + 1 ≤ 641004 by omega), (show sl + 6 ≤ 7173092 by omega)⟩ (fun v1 h1 n1 p1 hn1 => ?_) (fun E h9 n9 p9 _ => by obtain ⟨e9, -⟩ := p9; cases e9)
    obtain ⟨pv1, -, pH, po, f1, pf, pval⟩ := p1
    have hv1 : v1 = some (.int (nI 1)) := by have e9 := pv1; rw [hx9] at e9; exact Sum.inl.inj e9
    subst hv1
    have hg1 := (po (q + 208) (Or.inr (by omega)) (by omega)).trans hg0
    have hM1 := I.A hn1 (fun b z1 z2 z3 => po b z1 z2)
    obtain ⟨s1, hm1⟩ := hM1.2.2.1
    refine aw_istore (L' := [(6, .int (nI (1))), (0, .ref (b)), (1, .ref (q)), (2, .ref (q + 204)), (3, .ref (q + 207)), (4, .ref (q + 208)), (5, .int (nI (i)))]) dL_law_159 (by decide) rfl ?_
    refine aw_aload_n dL_law_161 rfl ?_
    refine aw_aload_n dL_law_162 rfl ?_
    refine aw_iload dL_law_163 rfl ?_
    refine aw_ic dL_law_165 ic_1 ?_
    refine aw_iaddN dL_law_166 ?_
    refine aw_sld (by omega) hL dL_law_167 ?_
    refine aw_callV (As := [.int (xs (i + 1))]) (rest := []) (m_X9_deck G hM1 hσ (by omega) (by omega) (xs (i + 1))) kX9_deck w_750 hm1 rfl rfl rfl rfl (Nat.le_of_ble_eq_true rfl) dL_law_168 ⟨Nat.le_of_ble_eq_true rfl, Nat.le_of_ble_eq_true rfl⟩ ⟨(show ce + 1 + 6 ≤ 641004 by omega), (show sl + 6 + 103 ≤ 7173092 by omega)⟩ (fun v2 h2 n2 p2 hn2 => ?_) (fun E h9 n9 p9 _ => by obtain ⟨e9, -⟩ := p9; cases e9)
    have hv2 : v2 = some (.int (nI (0))) := by have e9 := p2.1; rw [hx9] at e9; exact Sum.inl.inj e9
    obtain ⟨own2, I2, pf2, pg2⟩ := I.B hn1 pH pf hg1 (k_deck hσ (xs (i + 1))) p2
    rw [hx9] at I2
    have I3 : LInv G own2 h2 n2 q (c + 1) _ (nI 1) := I2
    subst hv2
    obtain ⟨s3, hm3⟩ := I3.1.2.2.1
    refine aw_istore (L' := [(7, .int (nI (0))), (6, .int (nI (1))), (0, .ref (b)), (1, .ref (q)), (2, .ref (q + 204)), (3, .ref (q + 207)), (4, .ref (q + 208)), (5, .int (nI (i)))]) dL_law_171 (by decide) rfl ?_
    refine aw_aload_n dL_law_173 rfl ?_
    refine aw_callVR (As := []) (rest := []) (c_X9_thrown G hm3) kX9_thrown w_746 hm3 rfl rfl rfl rfl (Nat.le_of_ble_eq_true rfl) dL_law_174 ⟨Nat.le_of_ble_eq_true rfl, Nat.le_of_ble_eq_true rfl⟩ ⟨(show ce + 1 + 6 + 0 ≤ 641004 by omega), (show sl + 6 + 103 + 0 ≤ 7173092 by omega)⟩ ?_
    refine aw_iload dL_law_177 rfl ?_
    refine aw_icmp_eqN (tgt := 184) (by omega) (by omega) dL_law_179 (by decide) (fun cz => ?_) (fun cz => absurd cz (by omega))
    refine aw_iload dL_law_184 rfl ?_
    refine aw_if_neN (tgt := 201) (by omega) dL_law_186 (by decide) (fun cy => ?_) (fun cy => absurd cy (by omega))
    refine aw_goto (tgt := 1650) dL_law_201 (by decide) ?_
    refine aw_widen (cells' := ce + 893) (slots' := sl + 10108) (by omega) (by omega) ?_
    refine aw_sub (L' := [(0, .ref (b)), (1, .ref (q)), (2, .ref (q + 204)), (3, .ref (q + 207)), (4, .ref (q + 208)), (5, .int (nI (i)))]) [2, 3, 4, 5, 6, 7] rfl ?_
    exact K _ _ _ _ _ I3
  · skip
    refine aw_aload_n dL_law_148 rfl ?_
    refine aw_aload_n dL_law_149 rfl ?_
    refine aw_iload dL_law_150 rfl ?_
    refine aw_ic dL_law_152 ic_1 ?_
    refine aw_iaddN dL_law_153 ?_
    refine aw_sld (by omega) hL dL_law_154 ?_
    refine aw_aload_n dL_law_155 rfl ?_
    refine aw_callH (As := [.ref (q), .int (xs (i + 1)), .ref (q + 207)]) (rest := []) (l_deck G hH hσ (by omega) (Or.inr (by omega)) hf0 (xs (i + 1))) kL_deck w_505 rfl rfl (Nat.le_of_ble_eq_true rfl) dL_law_156 ⟨Nat.le_of_ble_eq_true rfl, Nat.le_of_ble_eq_true rfl⟩ ⟨(show ce + 1 ≤ 641004 by omega), (show sl + 6 ≤ 7173092 by omega)⟩ (fun v1 h1 n1 p1 hn1 => ?_) (fun E h9 n9 p9 _ => by obtain ⟨e9, -⟩ := p9; cases e9)
    obtain ⟨pv1, -, pH, po, f1, pf, pval⟩ := p1
    have hv1 : v1 = some (.int (nI 2)) := by have e9 := pv1; rw [hx9] at e9; exact Sum.inl.inj e9
    subst hv1
    have hg1 := (po (q + 208) (Or.inr (by omega)) (by omega)).trans hg0
    have hM1 := I.A hn1 (fun b z1 z2 z3 => po b z1 z2)
    obtain ⟨s1, hm1⟩ := hM1.2.2.1
    refine aw_istore (L' := [(6, .int (nI (2))), (0, .ref (b)), (1, .ref (q)), (2, .ref (q + 204)), (3, .ref (q + 207)), (4, .ref (q + 208)), (5, .int (nI (i)))]) dL_law_159 (by decide) rfl ?_
    refine aw_aload_n dL_law_161 rfl ?_
    refine aw_aload_n dL_law_162 rfl ?_
    refine aw_iload dL_law_163 rfl ?_
    refine aw_ic dL_law_165 ic_1 ?_
    refine aw_iaddN dL_law_166 ?_
    refine aw_sld (by omega) hL dL_law_167 ?_
    refine aw_callV (As := [.int (xs (i + 1))]) (rest := []) (m_X9_deck G hM1 hσ (by omega) (by omega) (xs (i + 1))) kX9_deck w_750 hm1 rfl rfl rfl rfl (Nat.le_of_ble_eq_true rfl) dL_law_168 ⟨Nat.le_of_ble_eq_true rfl, Nat.le_of_ble_eq_true rfl⟩ ⟨(show ce + 1 + 6 ≤ 641004 by omega), (show sl + 6 + 103 ≤ 7173092 by omega)⟩ (fun v2 h2 n2 p2 hn2 => ?_) (fun E h9 n9 p9 _ => by obtain ⟨e9, -⟩ := p9; cases e9)
    have hv2 : v2 = some (.int (nI (0))) := by have e9 := p2.1; rw [hx9] at e9; exact Sum.inl.inj e9
    obtain ⟨own2, I2, pf2, pg2⟩ := I.B hn1 pH pf hg1 (k_deck hσ (xs (i + 1))) p2
    rw [hx9] at I2
    have I3 : LInv G own2 h2 n2 q (c + 1) _ (nI 2) := I2
    subst hv2
    obtain ⟨s3, hm3⟩ := I3.1.2.2.1
    refine aw_istore (L' := [(7, .int (nI (0))), (6, .int (nI (2))), (0, .ref (b)), (1, .ref (q)), (2, .ref (q + 204)), (3, .ref (q + 207)), (4, .ref (q + 208)), (5, .int (nI (i)))]) dL_law_171 (by decide) rfl ?_
    refine aw_aload_n dL_law_173 rfl ?_
    refine aw_callVR (As := []) (rest := []) (c_X9_thrown G hm3) kX9_thrown w_746 hm3 rfl rfl rfl rfl (Nat.le_of_ble_eq_true rfl) dL_law_174 ⟨Nat.le_of_ble_eq_true rfl, Nat.le_of_ble_eq_true rfl⟩ ⟨(show ce + 1 + 6 + 0 ≤ 641004 by omega), (show sl + 6 + 103 + 0 ≤ 7173092 by omega)⟩ ?_
    refine aw_iload dL_law_177 rfl ?_
    refine aw_icmp_eqN (tgt := 184) (by omega) (by omega) dL_law_179 (by decide) (fun cz => ?_) (fun cz => absurd cz (by omega))
    refine aw_iload dL_law_184 rfl ?_
    refine aw_if_neN (tgt := 201) (by omega) dL_law_186 (by decide) (fun cy => ?_) (fun cy => absurd cy (by omega))
    refine aw_goto (tgt := 1650) dL_law_201 (by decide) ?_
    refine aw_widen (cells' := ce + 893) (slots' := sl + 10108) (by omega) (by omega) ?_
    refine aw_sub (L' := [(0, .ref (b)), (1, .ref (q)), (2, .ref (q + 204)), (3, .ref (q + 207)), (4, .ref (q + 208)), (5, .int (nI (i)))]) [2, 3, 4, 5, 6, 7] rfl ?_
    exact K _ _ _ _ _ I3
set_option maxHeartbeats 4000000 in
set_option maxRecDepth 20000 in
theorem law_shuffle (G : aG) {b L q i c nx : Nat} {xs : Nat → Int32} {own : Nat → Nat} {h : aH} {σ : aSg} {th : Int32} {ce sl : Nat} (I : LInv G own h nx q c σ th) (hc9 : c ≤ 511) (hi : i + 5 ≤ L) (hL : L ≤ 2560) (hG : G.2.2.2 < q) (hce : ce + 893 ≤ 641004) (hsl : sl + 10108 ≤ 7173092) (K : ∀ (own1 : Nat → Nat) (h1 : aH) (nx1 : Nat) (σ1 : aSg) (th1 : Int32), LInv G own1 h1 nx1 q (c + 1) σ1 th1 → aw G mL_law [] room_1 (lawQ G b L xs) (ce + 893) (sl + 10108) h1 nx1 1650 [(0, .ref (b)), (1, .ref (q)), (2, .ref (q + 204)), (3, .ref (q + 207)), (4, .ref (q + 208)), (5, .int (nI (i)))] []) : aw G mL_law [] room_1 (lawQ G b L xs) ce sl h nx 204 [(0, .ref (b)), (1, .ref (q)), (2, .ref (q + 204)), (3, .ref (q + 207)), (4, .ref (q + 208)), (5, .int (nI (i)))] [] := by
  have I0 := I
  obtain ⟨hM, hH, hσ, hO1, ⟨hO2, hO3⟩, ⟨f0, hf0⟩, ⟨g0, hg0⟩, hnx⟩ := I0
  rcases o_shuffle σ (xs (i + 1)) (xs (i + 2)) (xs (i + 3)) (xs (i + 4)) with ⟨x9, hx9⟩ | hx9 | hx9
  · skip
    refine aw_aload_n dL_law_204 rfl ?_
    refine aw_aload_n dL_law_205 rfl ?_
    refine aw_iload dL_law_206 rfl ?_
    refine aw_ic dL_law_208 ic_1 ?_
    refine aw_iaddN dL_law_209 ?_
    refine aw_sld (by omega) hL dL_law_210 ?_
    refine aw_aload_n dL_law_211 rfl ?_
    refine aw_iload dL_law_212 rfl ?_
    refine aw_ic dL_law_214 ic_2 ?_
    refine aw_iaddN dL_law_215 ?_
    refine aw_sld (by omega) hL dL_law_216 ?_
    refine aw_aload_n dL_law_217 rfl ?_
    refine aw_iload dL_law_218 rfl ?_
    refine aw_ic dL_law_220 ic_3 ?_
    refine aw_iaddN dL_law_221 ?_
    refine aw_sld (by omega) hL dL_law_222 ?_
    refine aw_aload_n dL_law_223 rfl ?_
    refine aw_iload dL_law_224 rfl ?_
    refine aw_ic dL_law_226 ic_4 ?_
    refine aw_iaddN dL_law_227 ?_
    refine aw_sld (by omega) hL dL_law_228 ?_
    refine aw_aload_n dL_law_229 rfl ?_
    refine aw_callH (As := [.ref (q), .int (xs (i + 1)), .int (xs (i + 2)), .int (xs (i + 3)), .int (xs (i + 4)), .ref (q + 207)]) (rest := []) (l_shuffle G hH hσ (by omega) (Or.inr (by omega)) hf0 (xs (i + 1)) (xs (i + 2)) (xs (i + 3)) (xs (i + 4))) kL_shuffle w_535 rfl rfl (Nat.le_of_ble_eq_true rfl) dL_law_230 ⟨Nat.le_of_ble_eq_true rfl, Nat.le_of_ble_eq_true rfl⟩ ⟨(show ce + 1 ≤ 641004 by omega), (show sl + 6 ≤ 7173092 by omega)⟩ (fun v1 h1 n1 p1 hn1 => ?_) (fun E h9 n9 p9 _ => by obtain ⟨e9, -⟩ := p9; cases e9)
    obtain ⟨pv1, -, pH, po, f1, pf, pval⟩ := p1
    have hv1 : v1 = some (.int (nI 0)) := by have e9 := pv1; rw [hx9] at e9; exact Sum.inl.inj e9
    subst hv1
    have hg1 := (po (q + 208) (Or.inr (by omega)) (by omega)).trans hg0
    have hM1 := I.A hn1 (fun b z1 z2 z3 => po b z1 z2)
    obtain ⟨s1, hm1⟩ := hM1.2.2.1
    refine aw_istore (L' := [(6, .int (nI (0))), (0, .ref (b)), (1, .ref (q)), (2, .ref (q + 204)), (3, .ref (q + 207)), (4, .ref (q + 208)), (5, .int (nI (i)))]) dL_law_233 (by decide) rfl ?_
    refine aw_aload_n dL_law_235 rfl ?_
    refine aw_aload_n dL_law_236 rfl ?_
    refine aw_iload dL_law_237 rfl ?_
    refine aw_ic dL_law_239 ic_1 ?_
    refine aw_iaddN dL_law_240 ?_
    refine aw_sld (by omega) hL dL_law_241 ?_
    refine aw_aload_n dL_law_242 rfl ?_
    refine aw_iload dL_law_243 rfl ?_
    refine aw_ic dL_law_245 ic_2 ?_
    refine aw_iaddN dL_law_246 ?_
    refine aw_sld (by omega) hL dL_law_247 ?_
    refine aw_aload_n dL_law_248 rfl ?_
    refine aw_iload dL_law_249 rfl ?_
    refine aw_ic dL_law_251 ic_3 ?_
    refine aw_iaddN dL_law_252 ?_
    refine aw_sld (by omega) hL dL_law_253 ?_
    refine aw_aload_n dL_law_254 rfl ?_
    refine aw_iload dL_law_255 rfl ?_
    refine aw_ic dL_law_257 ic_4 ?_
    refine aw_iaddN dL_law_258 ?_
    refine aw_sld (by omega) hL dL_law_259 ?_
    refine aw_callV (As := [.int (xs (i + 1)), .int (xs (i + 2)), .int (xs (i + 3)), .int (xs (i + 4))]) (rest := []) (m_X9_shuffle G hM1 hσ (by omega) (xs (i + 1)) (xs (i + 2)) (xs (i + 3)) (xs (i + 4))) kX9_shuffle w_846 hm1 rfl rfl rfl rfl (Nat.le_of_ble_eq_true rfl) dL_law_260 ⟨Nat.le_of_ble_eq_true rfl, Nat.le_of_ble_eq_true rfl⟩ ⟨(show ce + 1 + 130 ≤ 641004 by omega), (show sl + 6 + 1580 ≤ 7173092 by omega)⟩ (fun v2 h2 n2 p2 hn2 => ?_) (fun E h9 n9 p9 _ => by obtain ⟨e9, -⟩ := p9; cases e9)
    have hv2 : v2 = some (.int (x9)) := by have e9 := p2.1; rw [hx9] at e9; exact Sum.inl.inj e9
    obtain ⟨own2, I2, pf2, pg2⟩ := I.B hn1 pH pf hg1 (k_shuffle hσ (xs (i + 1)) (xs (i + 2)) (xs (i + 3)) (xs (i + 4))) p2
    rw [hx9] at I2
    have I3 : LInv G own2 h2 n2 q (c + 1) _ (nI 0) := I2
    subst hv2
    obtain ⟨s3, hm3⟩ := I3.1.2.2.1
    refine aw_istore (L' := [(7, .int (x9)), (6, .int (nI (0))), (0, .ref (b)), (1, .ref (q)), (2, .ref (q + 204)), (3, .ref (q + 207)), (4, .ref (q + 208)), (5, .int (nI (i)))]) dL_law_263 (by decide) rfl ?_
    refine aw_aload_n dL_law_265 rfl ?_
    refine aw_callVR (As := []) (rest := []) (c_X9_thrown G hm3) kX9_thrown w_746 hm3 rfl rfl rfl rfl (Nat.le_of_ble_eq_true rfl) dL_law_266 ⟨Nat.le_of_ble_eq_true rfl, Nat.le_of_ble_eq_true rfl⟩ ⟨(show ce + 1 + 130 + 0 ≤ 641004 by omega), (show sl + 6 + 1580 + 0 ≤ 7173092 by omega)⟩ ?_
    refine aw_iload dL_law_269 rfl ?_
    refine aw_icmp_eqN (tgt := 276) (by omega) (by omega) dL_law_271 (by decide) (fun cz => ?_) (fun cz => absurd cz (by omega))
    refine aw_iload dL_law_276 rfl ?_
    refine aw_if_neN (tgt := 293) (by omega) dL_law_278 (by decide) (fun cy => absurd cy (by omega)) (fun cy => ?_)
    refine aw_aload_n dL_law_281 rfl ?_
    refine aw_ic dL_law_282 ic_0 ?_
    refine aw_laload pf2 (by omega) (by omega) dL_law_283 ?_
    refine aw_iload dL_law_284 rfl ?_
    refine aw_i2l dL_law_286 ?_
    refine aw_lcmp dL_law_287 ?_
    refine aw_top (show (lg_cmp (f1 0) ((x9)).toInt64) = (nI (0)) from (by rw [pval x9 hx9]; exact lg_self _)) ?_
    refine aw_if_eqN (tgt := 293) (by omega) dL_law_288 (by decide) (fun cx => ?_) (fun cx => absurd cx (by omega))
    refine aw_goto (tgt := 1650) dL_law_293 (by decide) ?_
    refine aw_widen (cells' := ce + 893) (slots' := sl + 10108) (by omega) (by omega) ?_
    refine aw_sub (L' := [(0, .ref (b)), (1, .ref (q)), (2, .ref (q + 204)), (3, .ref (q + 207)), (4, .ref (q + 208)), (5, .int (nI (i)))]) [2, 3, 4, 5, 6, 7] rfl ?_
    exact K _ _ _ _ _ I3
  · skip
    refine aw_aload_n dL_law_204 rfl ?_
    refine aw_aload_n dL_law_205 rfl ?_
    refine aw_iload dL_law_206 rfl ?_
    refine aw_ic dL_law_208 ic_1 ?_
    refine aw_iaddN dL_law_209 ?_
    refine aw_sld (by omega) hL dL_law_210 ?_
    refine aw_aload_n dL_law_211 rfl ?_
    refine aw_iload dL_law_212 rfl ?_
    refine aw_ic dL_law_214 ic_2 ?_
    refine aw_iaddN dL_law_215 ?_
    refine aw_sld (by omega) hL dL_law_216 ?_
    refine aw_aload_n dL_law_217 rfl ?_
    refine aw_iload dL_law_218 rfl ?_
    refine aw_ic dL_law_220 ic_3 ?_
    refine aw_iaddN dL_law_221 ?_
    refine aw_sld (by omega) hL dL_law_222 ?_
    refine aw_aload_n dL_law_223 rfl ?_
    refine aw_iload dL_law_224 rfl ?_
    refine aw_ic dL_law_226 ic_4 ?_
    refine aw_iaddN dL_law_227 ?_
    refine aw_sld (by omega) hL dL_law_228 ?_
    refine aw_aload_n dL_law_229 rfl ?_
    refine aw_callH (As := [.ref (q), .int (xs (i + 1)), .int (xs (i + 2)), .int (xs (i + 3)), .int (xs (i + 4)), .ref (q + 207)]) (rest := []) (l_shuffle G hH hσ (by omega) (Or.inr (by omega)) hf0 (xs (i + 1)) (xs (i + 2)) (xs (i + 3)) (xs (i + 4))) kL_shuffle w_535 rfl rfl (Nat.le_of_ble_eq_true rfl) dL_law_230 ⟨Nat.le_of_ble_eq_true rfl, Nat.le_of_ble_eq_true rfl⟩ ⟨(show ce + 1 ≤ 641004 by omega), (show sl + 6 ≤ 7173092 by omega)⟩ (fun v1 h1 n1 p1 hn1 => ?_) (fun E h9 n9 p9 _ => by obtain ⟨e9, -⟩ := p9; cases e9)
    obtain ⟨pv1, -, pH, po, f1, pf, pval⟩ := p1
    have hv1 : v1 = some (.int (nI 1)) := by have e9 := pv1; rw [hx9] at e9; exact Sum.inl.inj e9
    subst hv1
    have hg1 := (po (q + 208) (Or.inr (by omega)) (by omega)).trans hg0
    have hM1 := I.A hn1 (fun b z1 z2 z3 => po b z1 z2)
    obtain ⟨s1, hm1⟩ := hM1.2.2.1
    refine aw_istore (L' := [(6, .int (nI (1))), (0, .ref (b)), (1, .ref (q)), (2, .ref (q + 204)), (3, .ref (q + 207)), (4, .ref (q + 208)), (5, .int (nI (i)))]) dL_law_233 (by decide) rfl ?_
    refine aw_aload_n dL_law_235 rfl ?_
    refine aw_aload_n dL_law_236 rfl ?_
    refine aw_iload dL_law_237 rfl ?_
    refine aw_ic dL_law_239 ic_1 ?_
    refine aw_iaddN dL_law_240 ?_
    refine aw_sld (by omega) hL dL_law_241 ?_
    refine aw_aload_n dL_law_242 rfl ?_
    refine aw_iload dL_law_243 rfl ?_
    refine aw_ic dL_law_245 ic_2 ?_
    refine aw_iaddN dL_law_246 ?_
    refine aw_sld (by omega) hL dL_law_247 ?_
    refine aw_aload_n dL_law_248 rfl ?_
    refine aw_iload dL_law_249 rfl ?_
    refine aw_ic dL_law_251 ic_3 ?_
    refine aw_iaddN dL_law_252 ?_
    refine aw_sld (by omega) hL dL_law_253 ?_
    refine aw_aload_n dL_law_254 rfl ?_
    refine aw_iload dL_law_255 rfl ?_
    refine aw_ic dL_law_257 ic_4 ?_
    refine aw_iaddN dL_law_258 ?_
    refine aw_sld (by omega) hL dL_law_259 ?_
    refine aw_callV (As := [.int (xs (i + 1)), .int (xs (i + 2)), .int (xs (i + 3)), .int (xs (i + 4))]) (rest := []) (m_X9_shuffle G hM1 hσ (by omega) (xs (i + 1)) (xs (i + 2)) (xs (i + 3)) (xs (i + 4))) kX9_shuffle w_846 hm1 rfl rfl rfl rfl (Nat.le_of_ble_eq_true rfl) dL_law_260 ⟨Nat.le_of_ble_eq_true rfl, Nat.le_of_ble_eq_true rfl⟩ ⟨(show ce + 1 + 130 ≤ 641004 by omega), (show sl + 6 + 1580 ≤ 7173092 by omega)⟩ (fun v2 h2 n2 p2 hn2 => ?_) (fun E h9 n9 p9 _ => by obtain ⟨e9, -⟩ := p9; cases e9)
    have hv2 : v2 = some (.int (nI (0))) := by have e9 := p2.1; rw [hx9] at e9; exact Sum.inl.inj e9
    obtain ⟨own2, I2, pf2, pg2⟩ := I.B hn1 pH pf hg1 (k_shuffle hσ (xs (i + 1)) (xs (i + 2)) (xs (i + 3)) (xs (i + 4))) p2
    rw [hx9] at I2
    have I3 : LInv G own2 h2 n2 q (c + 1) _ (nI 1) := I2
    subst hv2
    obtain ⟨s3, hm3⟩ := I3.1.2.2.1
    refine aw_istore (L' := [(7, .int (nI (0))), (6, .int (nI (1))), (0, .ref (b)), (1, .ref (q)), (2, .ref (q + 204)), (3, .ref (q + 207)), (4, .ref (q + 208)), (5, .int (nI (i)))]) dL_law_263 (by decide) rfl ?_
    refine aw_aload_n dL_law_265 rfl ?_
    refine aw_callVR (As := []) (rest := []) (c_X9_thrown G hm3) kX9_thrown w_746 hm3 rfl rfl rfl rfl (Nat.le_of_ble_eq_true rfl) dL_law_266 ⟨Nat.le_of_ble_eq_true rfl, Nat.le_of_ble_eq_true rfl⟩ ⟨(show ce + 1 + 130 + 0 ≤ 641004 by omega), (show sl + 6 + 1580 + 0 ≤ 7173092 by omega)⟩ ?_
    refine aw_iload dL_law_269 rfl ?_
    refine aw_icmp_eqN (tgt := 276) (by omega) (by omega) dL_law_271 (by decide) (fun cz => ?_) (fun cz => absurd cz (by omega))
    refine aw_iload dL_law_276 rfl ?_
    refine aw_if_neN (tgt := 293) (by omega) dL_law_278 (by decide) (fun cy => ?_) (fun cy => absurd cy (by omega))
    refine aw_goto (tgt := 1650) dL_law_293 (by decide) ?_
    refine aw_widen (cells' := ce + 893) (slots' := sl + 10108) (by omega) (by omega) ?_
    refine aw_sub (L' := [(0, .ref (b)), (1, .ref (q)), (2, .ref (q + 204)), (3, .ref (q + 207)), (4, .ref (q + 208)), (5, .int (nI (i)))]) [2, 3, 4, 5, 6, 7] rfl ?_
    exact K _ _ _ _ _ I3
  · skip
    refine aw_aload_n dL_law_204 rfl ?_
    refine aw_aload_n dL_law_205 rfl ?_
    refine aw_iload dL_law_206 rfl ?_
    refine aw_ic dL_law_208 ic_1 ?_
    refine aw_iaddN dL_law_209 ?_
    refine aw_sld (by omega) hL dL_law_210 ?_
    refine aw_aload_n dL_law_211 rfl ?_
    refine aw_iload dL_law_212 rfl ?_
    refine aw_ic dL_law_214 ic_2 ?_
    refine aw_iaddN dL_law_215 ?_
    refine aw_sld (by omega) hL dL_law_216 ?_
    refine aw_aload_n dL_law_217 rfl ?_
    refine aw_iload dL_law_218 rfl ?_
    refine aw_ic dL_law_220 ic_3 ?_
    refine aw_iaddN dL_law_221 ?_
    refine aw_sld (by omega) hL dL_law_222 ?_
    refine aw_aload_n dL_law_223 rfl ?_
    refine aw_iload dL_law_224 rfl ?_
    refine aw_ic dL_law_226 ic_4 ?_
    refine aw_iaddN dL_law_227 ?_
    refine aw_sld (by omega) hL dL_law_228 ?_
    refine aw_aload_n dL_law_229 rfl ?_
    refine aw_callH (As := [.ref (q), .int (xs (i + 1)), .int (xs (i + 2)), .int (xs (i + 3)), .int (xs (i + 4)), .ref (q + 207)]) (rest := []) (l_shuffle G hH hσ (by omega) (Or.inr (by omega)) hf0 (xs (i + 1)) (xs (i + 2)) (xs (i + 3)) (xs (i + 4))) kL_shuffle w_535 rfl rfl (Nat.le_of_ble_eq_true rfl) dL_law_230 ⟨Nat.le_of_ble_eq_true rfl, Nat.le_of_ble_eq_true rfl⟩ ⟨(show ce + 1 ≤ 641004 by omega), (show sl + 6 ≤ 7173092 by omega)⟩ (fun v1 h1 n1 p1 hn1 => ?_) (fun E h9 n9 p9 _ => by obtain ⟨e9, -⟩ := p9; cases e9)
    obtain ⟨pv1, -, pH, po, f1, pf, pval⟩ := p1
    have hv1 : v1 = some (.int (nI 2)) := by have e9 := pv1; rw [hx9] at e9; exact Sum.inl.inj e9
    subst hv1
    have hg1 := (po (q + 208) (Or.inr (by omega)) (by omega)).trans hg0
    have hM1 := I.A hn1 (fun b z1 z2 z3 => po b z1 z2)
    obtain ⟨s1, hm1⟩ := hM1.2.2.1
    refine aw_istore (L' := [(6, .int (nI (2))), (0, .ref (b)), (1, .ref (q)), (2, .ref (q + 204)), (3, .ref (q + 207)), (4, .ref (q + 208)), (5, .int (nI (i)))]) dL_law_233 (by decide) rfl ?_
    refine aw_aload_n dL_law_235 rfl ?_
    refine aw_aload_n dL_law_236 rfl ?_
    refine aw_iload dL_law_237 rfl ?_
    refine aw_ic dL_law_239 ic_1 ?_
    refine aw_iaddN dL_law_240 ?_
    refine aw_sld (by omega) hL dL_law_241 ?_
    refine aw_aload_n dL_law_242 rfl ?_
    refine aw_iload dL_law_243 rfl ?_
    refine aw_ic dL_law_245 ic_2 ?_
    refine aw_iaddN dL_law_246 ?_
    refine aw_sld (by omega) hL dL_law_247 ?_
    refine aw_aload_n dL_law_248 rfl ?_
    refine aw_iload dL_law_249 rfl ?_
    refine aw_ic dL_law_251 ic_3 ?_
    refine aw_iaddN dL_law_252 ?_
    refine aw_sld (by omega) hL dL_law_253 ?_
    refine aw_aload_n dL_law_254 rfl ?_
    refine aw_iload dL_law_255 rfl ?_
    refine aw_ic dL_law_257 ic_4 ?_
    refine aw_iaddN dL_law_258 ?_
    refine aw_sld (by omega) hL dL_law_259 ?_
    refine aw_callV (As := [.int (xs (i + 1)), .int (xs (i + 2)), .int (xs (i + 3)), .int (xs (i + 4))]) (rest := []) (m_X9_shuffle G hM1 hσ (by omega) (xs (i + 1)) (xs (i + 2)) (xs (i + 3)) (xs (i + 4))) kX9_shuffle w_846 hm1 rfl rfl rfl rfl (Nat.le_of_ble_eq_true rfl) dL_law_260 ⟨Nat.le_of_ble_eq_true rfl, Nat.le_of_ble_eq_true rfl⟩ ⟨(show ce + 1 + 130 ≤ 641004 by omega), (show sl + 6 + 1580 ≤ 7173092 by omega)⟩ (fun v2 h2 n2 p2 hn2 => ?_) (fun E h9 n9 p9 _ => by obtain ⟨e9, -⟩ := p9; cases e9)
    have hv2 : v2 = some (.int (nI (0))) := by have e9 := p2.1; rw [hx9] at e9; exact Sum.inl.inj e9
    obtain ⟨own2, I2, pf2, pg2⟩ := I.B hn1 pH pf hg1 (k_shuffle hσ (xs (i + 1)) (xs (i + 2)) (xs (i + 3)) (xs (i + 4))) p2
    rw [hx9] at I2
    have I3 : LInv G own2 h2 n2 q (c + 1) _ (nI 2) := I2
    subst hv2
    obtain ⟨s3, hm3⟩ := I3.1.2.2.1
    refine aw_istore (L' := [(7, .int (nI (0))), (6, .int (nI (2))), (0, .ref (b)), (1, .ref (q)), (2, .ref (q + 204)), (3, .ref (q + 207)), (4, .ref (q + 208)), (5, .int (nI (i)))]) dL_law_263 (by decide) rfl ?_
    refine aw_aload_n dL_law_265 rfl ?_
    refine aw_callVR (As := []) (rest := []) (c_X9_thrown G hm3) kX9_thrown w_746 hm3 rfl rfl rfl rfl (Nat.le_of_ble_eq_true rfl) dL_law_266 ⟨Nat.le_of_ble_eq_true rfl, Nat.le_of_ble_eq_true rfl⟩ ⟨(show ce + 1 + 130 + 0 ≤ 641004 by omega), (show sl + 6 + 1580 + 0 ≤ 7173092 by omega)⟩ ?_
    refine aw_iload dL_law_269 rfl ?_
    refine aw_icmp_eqN (tgt := 276) (by omega) (by omega) dL_law_271 (by decide) (fun cz => ?_) (fun cz => absurd cz (by omega))
    refine aw_iload dL_law_276 rfl ?_
    refine aw_if_neN (tgt := 293) (by omega) dL_law_278 (by decide) (fun cy => ?_) (fun cy => absurd cy (by omega))
    refine aw_goto (tgt := 1650) dL_law_293 (by decide) ?_
    refine aw_widen (cells' := ce + 893) (slots' := sl + 10108) (by omega) (by omega) ?_
    refine aw_sub (L' := [(0, .ref (b)), (1, .ref (q)), (2, .ref (q + 204)), (3, .ref (q + 207)), (4, .ref (q + 208)), (5, .int (nI (i)))]) [2, 3, 4, 5, 6, 7] rfl ?_
    exact K _ _ _ _ _ I3
set_option maxHeartbeats 4000000 in
set_option maxRecDepth 20000 in
theorem law_undo (G : aG) {b L q i c nx : Nat} {xs : Nat → Int32} {own : Nat → Nat} {h : aH} {σ : aSg} {th : Int32} {ce sl : Nat} (I : LInv G own h nx q c σ th) (hc9 : c ≤ 511) (hi : i + 5 ≤ L) (hL : L ≤ 2560) (hG : G.2.2.2 < q) (hce : ce + 893 ≤ 641004) (hsl : sl + 10108 ≤ 7173092) (K : ∀ (own1 : Nat → Nat) (h1 : aH) (nx1 : Nat) (σ1 : aSg) (th1 : Int32), LInv G own1 h1 nx1 q (c + 1) σ1 th1 → aw G mL_law [] room_1 (lawQ G b L xs) (ce + 893) (sl + 10108) h1 nx1 1650 [(0, .ref (b)), (1, .ref (q)), (2, .ref (q + 204)), (3, .ref (q + 207)), (4, .ref (q + 208)), (5, .int (nI (i)))] []) : aw G mL_law [] room_1 (lawQ G b L xs) ce sl h nx 296 [(0, .ref (b)), (1, .ref (q)), (2, .ref (q + 204)), (3, .ref (q + 207)), (4, .ref (q + 208)), (5, .int (nI (i)))] [] := by
  have I0 := I
  obtain ⟨hM, hH, hσ, hO1, ⟨hO2, hO3⟩, ⟨f0, hf0⟩, ⟨g0, hg0⟩, hnx⟩ := I0
  rcases o_undo σ (xs (i + 1)) with ⟨x9, hx9⟩ | hx9
  · skip
    refine aw_aload_n dL_law_296 rfl ?_
    refine aw_aload_n dL_law_297 rfl ?_
    refine aw_iload dL_law_298 rfl ?_
    refine aw_ic dL_law_300 ic_1 ?_
    refine aw_iaddN dL_law_301 ?_
    refine aw_sld (by omega) hL dL_law_302 ?_
    refine aw_aload_n dL_law_303 rfl ?_
    refine aw_callH (As := [.ref (q), .int (xs (i + 1)), .ref (q + 207)]) (rest := []) (l_undo G hH hσ (by omega) (Or.inr (by omega)) hf0 (xs (i + 1))) kL_undo w_571 rfl rfl (Nat.le_of_ble_eq_true rfl) dL_law_304 ⟨Nat.le_of_ble_eq_true rfl, Nat.le_of_ble_eq_true rfl⟩ ⟨(show ce + 1 ≤ 641004 by omega), (show sl + 6 ≤ 7173092 by omega)⟩ (fun v1 h1 n1 p1 hn1 => ?_) (fun E h9 n9 p9 _ => by obtain ⟨e9, -⟩ := p9; cases e9)
    obtain ⟨pv1, -, pH, po, f1, pf, pval⟩ := p1
    have hv1 : v1 = some (.int (nI 0)) := by have e9 := pv1; rw [hx9] at e9; exact Sum.inl.inj e9
    subst hv1
    have hg1 := (po (q + 208) (Or.inr (by omega)) (by omega)).trans hg0
    have hM1 := I.A hn1 (fun b z1 z2 z3 => po b z1 z2)
    obtain ⟨s1, hm1⟩ := hM1.2.2.1
    refine aw_istore (L' := [(6, .int (nI (0))), (0, .ref (b)), (1, .ref (q)), (2, .ref (q + 204)), (3, .ref (q + 207)), (4, .ref (q + 208)), (5, .int (nI (i)))]) dL_law_307 (by decide) rfl ?_
    refine aw_aload_n dL_law_309 rfl ?_
    refine aw_aload_n dL_law_310 rfl ?_
    refine aw_iload dL_law_311 rfl ?_
    refine aw_ic dL_law_313 ic_1 ?_
    refine aw_iaddN dL_law_314 ?_
    refine aw_sld (by omega) hL dL_law_315 ?_
    refine aw_callV (As := [.int (xs (i + 1))]) (rest := []) (m_X9_undo G hM1 hσ (by omega) (xs (i + 1))) kX9_undo w_923 hm1 rfl rfl rfl rfl (Nat.le_of_ble_eq_true rfl) dL_law_316 ⟨Nat.le_of_ble_eq_true rfl, Nat.le_of_ble_eq_true rfl⟩ ⟨(show ce + 1 + 0 ≤ 641004 by omega), (show sl + 6 + 0 ≤ 7173092 by omega)⟩ (fun v2 h2 n2 p2 hn2 => ?_) (fun E h9 n9 p9 _ => by obtain ⟨e9, -⟩ := p9; cases e9)
    have hv2 : v2 = some (.int (x9)) := by have e9 := p2.1; rw [hx9] at e9; exact Sum.inl.inj e9
    obtain ⟨own2, I2, pf2, pg2⟩ := I.B hn1 pH pf hg1 (k_undo hσ (xs (i + 1))) p2
    rw [hx9] at I2
    have I3 : LInv G own2 h2 n2 q (c + 1) _ (nI 0) := I2
    subst hv2
    obtain ⟨s3, hm3⟩ := I3.1.2.2.1
    refine aw_istore (L' := [(7, .int (x9)), (6, .int (nI (0))), (0, .ref (b)), (1, .ref (q)), (2, .ref (q + 204)), (3, .ref (q + 207)), (4, .ref (q + 208)), (5, .int (nI (i)))]) dL_law_319 (by decide) rfl ?_
    refine aw_aload_n dL_law_321 rfl ?_
    refine aw_callVR (As := []) (rest := []) (c_X9_thrown G hm3) kX9_thrown w_746 hm3 rfl rfl rfl rfl (Nat.le_of_ble_eq_true rfl) dL_law_322 ⟨Nat.le_of_ble_eq_true rfl, Nat.le_of_ble_eq_true rfl⟩ ⟨(show ce + 1 + 0 + 0 ≤ 641004 by omega), (show sl + 6 + 0 + 0 ≤ 7173092 by omega)⟩ ?_
    refine aw_iload dL_law_325 rfl ?_
    refine aw_icmp_eqN (tgt := 332) (by omega) (by omega) dL_law_327 (by decide) (fun cz => ?_) (fun cz => absurd cz (by omega))
    refine aw_iload dL_law_332 rfl ?_
    refine aw_if_neN (tgt := 349) (by omega) dL_law_334 (by decide) (fun cy => absurd cy (by omega)) (fun cy => ?_)
    refine aw_aload_n dL_law_337 rfl ?_
    refine aw_ic dL_law_338 ic_0 ?_
    refine aw_laload pf2 (by omega) (by omega) dL_law_339 ?_
    refine aw_iload dL_law_340 rfl ?_
    refine aw_i2l dL_law_342 ?_
    refine aw_lcmp dL_law_343 ?_
    refine aw_top (show (lg_cmp (f1 0) ((x9)).toInt64) = (nI (0)) from (by rw [pval x9 hx9]; exact lg_self _)) ?_
    refine aw_if_eqN (tgt := 349) (by omega) dL_law_344 (by decide) (fun cx => ?_) (fun cx => absurd cx (by omega))
    refine aw_goto (tgt := 1650) dL_law_349 (by decide) ?_
    refine aw_widen (cells' := ce + 893) (slots' := sl + 10108) (by omega) (by omega) ?_
    refine aw_sub (L' := [(0, .ref (b)), (1, .ref (q)), (2, .ref (q + 204)), (3, .ref (q + 207)), (4, .ref (q + 208)), (5, .int (nI (i)))]) [2, 3, 4, 5, 6, 7] rfl ?_
    exact K _ _ _ _ _ I3
  · skip
    refine aw_aload_n dL_law_296 rfl ?_
    refine aw_aload_n dL_law_297 rfl ?_
    refine aw_iload dL_law_298 rfl ?_
    refine aw_ic dL_law_300 ic_1 ?_
    refine aw_iaddN dL_law_301 ?_
    refine aw_sld (by omega) hL dL_law_302 ?_
    refine aw_aload_n dL_law_303 rfl ?_
    refine aw_callH (As := [.ref (q), .int (xs (i + 1)), .ref (q + 207)]) (rest := []) (l_undo G hH hσ (by omega) (Or.inr (by omega)) hf0 (xs (i + 1))) kL_undo w_571 rfl rfl (Nat.le_of_ble_eq_true rfl) dL_law_304 ⟨Nat.le_of_ble_eq_true rfl, Nat.le_of_ble_eq_true rfl⟩ ⟨(show ce + 1 ≤ 641004 by omega), (show sl + 6 ≤ 7173092 by omega)⟩ (fun v1 h1 n1 p1 hn1 => ?_) (fun E h9 n9 p9 _ => by obtain ⟨e9, -⟩ := p9; cases e9)
    obtain ⟨pv1, -, pH, po, f1, pf, pval⟩ := p1
    have hv1 : v1 = some (.int (nI 1)) := by have e9 := pv1; rw [hx9] at e9; exact Sum.inl.inj e9
    subst hv1
    have hg1 := (po (q + 208) (Or.inr (by omega)) (by omega)).trans hg0
    have hM1 := I.A hn1 (fun b z1 z2 z3 => po b z1 z2)
    obtain ⟨s1, hm1⟩ := hM1.2.2.1
    refine aw_istore (L' := [(6, .int (nI (1))), (0, .ref (b)), (1, .ref (q)), (2, .ref (q + 204)), (3, .ref (q + 207)), (4, .ref (q + 208)), (5, .int (nI (i)))]) dL_law_307 (by decide) rfl ?_
    refine aw_aload_n dL_law_309 rfl ?_
    refine aw_aload_n dL_law_310 rfl ?_
    refine aw_iload dL_law_311 rfl ?_
    refine aw_ic dL_law_313 ic_1 ?_
    refine aw_iaddN dL_law_314 ?_
    refine aw_sld (by omega) hL dL_law_315 ?_
    refine aw_callV (As := [.int (xs (i + 1))]) (rest := []) (m_X9_undo G hM1 hσ (by omega) (xs (i + 1))) kX9_undo w_923 hm1 rfl rfl rfl rfl (Nat.le_of_ble_eq_true rfl) dL_law_316 ⟨Nat.le_of_ble_eq_true rfl, Nat.le_of_ble_eq_true rfl⟩ ⟨(show ce + 1 + 0 ≤ 641004 by omega), (show sl + 6 + 0 ≤ 7173092 by omega)⟩ (fun v2 h2 n2 p2 hn2 => ?_) (fun E h9 n9 p9 _ => by obtain ⟨e9, -⟩ := p9; cases e9)
    have hv2 : v2 = some (.int (nI (0))) := by have e9 := p2.1; rw [hx9] at e9; exact Sum.inl.inj e9
    obtain ⟨own2, I2, pf2, pg2⟩ := I.B hn1 pH pf hg1 (k_undo hσ (xs (i + 1))) p2
    rw [hx9] at I2
    have I3 : LInv G own2 h2 n2 q (c + 1) _ (nI 1) := I2
    subst hv2
    obtain ⟨s3, hm3⟩ := I3.1.2.2.1
    refine aw_istore (L' := [(7, .int (nI (0))), (6, .int (nI (1))), (0, .ref (b)), (1, .ref (q)), (2, .ref (q + 204)), (3, .ref (q + 207)), (4, .ref (q + 208)), (5, .int (nI (i)))]) dL_law_319 (by decide) rfl ?_
    refine aw_aload_n dL_law_321 rfl ?_
    refine aw_callVR (As := []) (rest := []) (c_X9_thrown G hm3) kX9_thrown w_746 hm3 rfl rfl rfl rfl (Nat.le_of_ble_eq_true rfl) dL_law_322 ⟨Nat.le_of_ble_eq_true rfl, Nat.le_of_ble_eq_true rfl⟩ ⟨(show ce + 1 + 0 + 0 ≤ 641004 by omega), (show sl + 6 + 0 + 0 ≤ 7173092 by omega)⟩ ?_
    refine aw_iload dL_law_325 rfl ?_
    refine aw_icmp_eqN (tgt := 332) (by omega) (by omega) dL_law_327 (by decide) (fun cz => ?_) (fun cz => absurd cz (by omega))
    refine aw_iload dL_law_332 rfl ?_
    refine aw_if_neN (tgt := 349) (by omega) dL_law_334 (by decide) (fun cy => ?_) (fun cy => absurd cy (by omega))
    refine aw_goto (tgt := 1650) dL_law_349 (by decide) ?_
    refine aw_widen (cells' := ce + 893) (slots' := sl + 10108) (by omega) (by omega) ?_
    refine aw_sub (L' := [(0, .ref (b)), (1, .ref (q)), (2, .ref (q + 204)), (3, .ref (q + 207)), (4, .ref (q + 208)), (5, .int (nI (i)))]) [2, 3, 4, 5, 6, 7] rfl ?_
    exact K _ _ _ _ _ I3
set_option maxHeartbeats 4000000 in
set_option maxRecDepth 20000 in
theorem law_turn (G : aG) {b L q i c nx : Nat} {xs : Nat → Int32} {own : Nat → Nat} {h : aH} {σ : aSg} {th : Int32} {ce sl : Nat} (I : LInv G own h nx q c σ th) (hc9 : c ≤ 511) (hi : i + 5 ≤ L) (hL : L ≤ 2560) (hG : G.2.2.2 < q) (hce : ce + 893 ≤ 641004) (hsl : sl + 10108 ≤ 7173092) (K : ∀ (own1 : Nat → Nat) (h1 : aH) (nx1 : Nat) (σ1 : aSg) (th1 : Int32), LInv G own1 h1 nx1 q (c + 1) σ1 th1 → aw G mL_law [] room_1 (lawQ G b L xs) (ce + 893) (sl + 10108) h1 nx1 1650 [(0, .ref (b)), (1, .ref (q)), (2, .ref (q + 204)), (3, .ref (q + 207)), (4, .ref (q + 208)), (5, .int (nI (i)))] []) : aw G mL_law [] room_1 (lawQ G b L xs) ce sl h nx 352 [(0, .ref (b)), (1, .ref (q)), (2, .ref (q + 204)), (3, .ref (q + 207)), (4, .ref (q + 208)), (5, .int (nI (i)))] [] := by
  have I0 := I
  obtain ⟨hM, hH, hσ, hO1, ⟨hO2, hO3⟩, ⟨f0, hf0⟩, ⟨g0, hg0⟩, hnx⟩ := I0
  rcases o_turn σ (xs (i + 1)) (xs (i + 2)) with ⟨x9, hx9⟩ | hx9
  · skip
    refine aw_aload_n dL_law_352 rfl ?_
    refine aw_aload_n dL_law_353 rfl ?_
    refine aw_iload dL_law_354 rfl ?_
    refine aw_ic dL_law_356 ic_1 ?_
    refine aw_iaddN dL_law_357 ?_
    refine aw_sld (by omega) hL dL_law_358 ?_
    refine aw_aload_n dL_law_359 rfl ?_
    refine aw_iload dL_law_360 rfl ?_
    refine aw_ic dL_law_362 ic_2 ?_
    refine aw_iaddN dL_law_363 ?_
    refine aw_sld (by omega) hL dL_law_364 ?_
    refine aw_aload_n dL_law_365 rfl ?_
    refine aw_callH (As := [.ref (q), .int (xs (i + 1)), .int (xs (i + 2)), .ref (q + 207)]) (rest := []) (l_turn G hH hσ (by omega) (Or.inr (by omega)) hf0 (xs (i + 1)) (xs (i + 2))) kL_turn w_586 rfl rfl (Nat.le_of_ble_eq_true rfl) dL_law_366 ⟨Nat.le_of_ble_eq_true rfl, Nat.le_of_ble_eq_true rfl⟩ ⟨(show ce + 1 ≤ 641004 by omega), (show sl + 6 ≤ 7173092 by omega)⟩ (fun v1 h1 n1 p1 hn1 => ?_) (fun E h9 n9 p9 _ => by obtain ⟨e9, -⟩ := p9; cases e9)
    obtain ⟨pv1, -, pH, po, f1, pf, pval⟩ := p1
    have hv1 : v1 = some (.int (nI 0)) := by have e9 := pv1; rw [hx9] at e9; exact Sum.inl.inj e9
    subst hv1
    have hg1 := (po (q + 208) (Or.inr (by omega)) (by omega)).trans hg0
    have hM1 := I.A hn1 (fun b z1 z2 z3 => po b z1 z2)
    obtain ⟨s1, hm1⟩ := hM1.2.2.1
    refine aw_istore (L' := [(6, .int (nI (0))), (0, .ref (b)), (1, .ref (q)), (2, .ref (q + 204)), (3, .ref (q + 207)), (4, .ref (q + 208)), (5, .int (nI (i)))]) dL_law_369 (by decide) rfl ?_
    refine aw_aload_n dL_law_371 rfl ?_
    refine aw_aload_n dL_law_372 rfl ?_
    refine aw_iload dL_law_373 rfl ?_
    refine aw_ic dL_law_375 ic_1 ?_
    refine aw_iaddN dL_law_376 ?_
    refine aw_sld (by omega) hL dL_law_377 ?_
    refine aw_aload_n dL_law_378 rfl ?_
    refine aw_iload dL_law_379 rfl ?_
    refine aw_ic dL_law_381 ic_2 ?_
    refine aw_iaddN dL_law_382 ?_
    refine aw_sld (by omega) hL dL_law_383 ?_
    refine aw_callV (As := [.int (xs (i + 1)), .int (xs (i + 2))]) (rest := []) (m_X9_turn G hM1 hσ (by omega) (xs (i + 1)) (xs (i + 2))) kX9_turn w_933 hm1 rfl rfl rfl rfl (Nat.le_of_ble_eq_true rfl) dL_law_384 ⟨Nat.le_of_ble_eq_true rfl, Nat.le_of_ble_eq_true rfl⟩ ⟨(show ce + 1 + 1 ≤ 641004 by omega), (show sl + 6 + 16 ≤ 7173092 by omega)⟩ (fun v2 h2 n2 p2 hn2 => ?_) (fun E h9 n9 p9 _ => by obtain ⟨e9, -⟩ := p9; cases e9)
    have hv2 : v2 = some (.int (bI (x9))) := by have e9 := p2.1; rw [hx9] at e9; exact Sum.inl.inj e9
    obtain ⟨own2, I2, pf2, pg2⟩ := I.B hn1 pH pf hg1 (k_turn hσ (xs (i + 1)) (xs (i + 2))) p2
    rw [hx9] at I2
    have I3 : LInv G own2 h2 n2 q (c + 1) _ (nI 0) := I2
    subst hv2
    obtain ⟨s3, hm3⟩ := I3.1.2.2.1
    refine aw_istore (L' := [(7, .int (bI (x9))), (6, .int (nI (0))), (0, .ref (b)), (1, .ref (q)), (2, .ref (q + 204)), (3, .ref (q + 207)), (4, .ref (q + 208)), (5, .int (nI (i)))]) dL_law_387 (by decide) rfl ?_
    refine aw_aload_n dL_law_389 rfl ?_
    refine aw_callVR (As := []) (rest := []) (c_X9_thrown G hm3) kX9_thrown w_746 hm3 rfl rfl rfl rfl (Nat.le_of_ble_eq_true rfl) dL_law_390 ⟨Nat.le_of_ble_eq_true rfl, Nat.le_of_ble_eq_true rfl⟩ ⟨(show ce + 1 + 1 + 0 ≤ 641004 by omega), (show sl + 6 + 16 + 0 ≤ 7173092 by omega)⟩ ?_
    refine aw_iload dL_law_393 rfl ?_
    refine aw_icmp_eqN (tgt := 400) (by omega) (by omega) dL_law_395 (by decide) (fun cz => ?_) (fun cz => absurd cz (by omega))
    refine aw_iload dL_law_400 rfl ?_
    refine aw_if_neN (tgt := 424) (by omega) dL_law_402 (by decide) (fun cy => absurd cy (by omega)) (fun cy => ?_)
    refine aw_aload_n dL_law_405 rfl ?_
    refine aw_ic dL_law_406 ic_0 ?_
    refine aw_laload pf2 (by omega) (by omega) dL_law_407 ?_
    refine aw_iload dL_law_408 rfl ?_
    refine aw_if_eqB (tgt := 417) dL_law_410 (by decide) (fun cb => ?_) (fun cb => ?_)
    · skip
      refine aw_lconst (v := 0) dL_law_417 (by decide) ?_
      refine aw_lcmp dL_law_418 ?_
      refine aw_top (show (lg_cmp (f1 0) 0) = (nI (0)) from (by rw [pval _ hx9, cb]; first | decide | rfl)) ?_
      refine aw_if_eqN (tgt := 424) (by omega) dL_law_419 (by decide) (fun cx => ?_) (fun cx => absurd cx (by omega))
      refine aw_goto (tgt := 1650) dL_law_424 (by decide) ?_
      refine aw_widen (cells' := ce + 893) (slots' := sl + 10108) (by omega) (by omega) ?_
      refine aw_sub (L' := [(0, .ref (b)), (1, .ref (q)), (2, .ref (q + 204)), (3, .ref (q + 207)), (4, .ref (q + 208)), (5, .int (nI (i)))]) [2, 3, 4, 5, 6, 7] rfl ?_
      exact K _ _ _ _ _ I3
    · skip
      refine aw_lconst (v := 1) dL_law_413 (by decide) ?_
      refine aw_goto (tgt := 418) dL_law_414 (by decide) ?_
      refine aw_lcmp dL_law_418 ?_
      refine aw_top (show (lg_cmp (f1 0) 1) = (nI (0)) from (by rw [pval _ hx9, cb]; first | decide | rfl)) ?_
      refine aw_if_eqN (tgt := 424) (by omega) dL_law_419 (by decide) (fun cx => ?_) (fun cx => absurd cx (by omega))
      refine aw_goto (tgt := 1650) dL_law_424 (by decide) ?_
      refine aw_widen (cells' := ce + 893) (slots' := sl + 10108) (by omega) (by omega) ?_
      refine aw_sub (L' := [(0, .ref (b)), (1, .ref (q)), (2, .ref (q + 204)), (3, .ref (q + 207)), (4, .ref (q + 208)), (5, .int (nI (i)))]) [2, 3, 4, 5, 6, 7] rfl ?_
      exact K _ _ _ _ _ I3
  · skip
    refine aw_aload_n dL_law_352 rfl ?_
    refine aw_aload_n dL_law_353 rfl ?_
    refine aw_iload dL_law_354 rfl ?_
    refine aw_ic dL_law_356 ic_1 ?_
    refine aw_iaddN dL_law_357 ?_
    refine aw_sld (by omega) hL dL_law_358 ?_
    refine aw_aload_n dL_law_359 rfl ?_
    refine aw_iload dL_law_360 rfl ?_
    refine aw_ic dL_law_362 ic_2 ?_
    refine aw_iaddN dL_law_363 ?_
    refine aw_sld (by omega) hL dL_law_364 ?_
    refine aw_aload_n dL_law_365 rfl ?_
    refine aw_callH (As := [.ref (q), .int (xs (i + 1)), .int (xs (i + 2)), .ref (q + 207)]) (rest := []) (l_turn G hH hσ (by omega) (Or.inr (by omega)) hf0 (xs (i + 1)) (xs (i + 2))) kL_turn w_586 rfl rfl (Nat.le_of_ble_eq_true rfl) dL_law_366 ⟨Nat.le_of_ble_eq_true rfl, Nat.le_of_ble_eq_true rfl⟩ ⟨(show ce + 1 ≤ 641004 by omega), (show sl + 6 ≤ 7173092 by omega)⟩ (fun v1 h1 n1 p1 hn1 => ?_) (fun E h9 n9 p9 _ => by obtain ⟨e9, -⟩ := p9; cases e9)
    obtain ⟨pv1, -, pH, po, f1, pf, pval⟩ := p1
    have hv1 : v1 = some (.int (nI 1)) := by have e9 := pv1; rw [hx9] at e9; exact Sum.inl.inj e9
    subst hv1
    have hg1 := (po (q + 208) (Or.inr (by omega)) (by omega)).trans hg0
    have hM1 := I.A hn1 (fun b z1 z2 z3 => po b z1 z2)
    obtain ⟨s1, hm1⟩ := hM1.2.2.1
    refine aw_istore (L' := [(6, .int (nI (1))), (0, .ref (b)), (1, .ref (q)), (2, .ref (q + 204)), (3, .ref (q + 207)), (4, .ref (q + 208)), (5, .int (nI (i)))]) dL_law_369 (by decide) rfl ?_
    refine aw_aload_n dL_law_371 rfl ?_
    refine aw_aload_n dL_law_372 rfl ?_
    refine aw_iload dL_law_373 rfl ?_
    refine aw_ic dL_law_375 ic_1 ?_
    refine aw_iaddN dL_law_376 ?_
    refine aw_sld (by omega) hL dL_law_377 ?_
    refine aw_aload_n dL_law_378 rfl ?_
    refine aw_iload dL_law_379 rfl ?_
    refine aw_ic dL_law_381 ic_2 ?_
    refine aw_iaddN dL_law_382 ?_
    refine aw_sld (by omega) hL dL_law_383 ?_
    refine aw_callV (As := [.int (xs (i + 1)), .int (xs (i + 2))]) (rest := []) (m_X9_turn G hM1 hσ (by omega) (xs (i + 1)) (xs (i + 2))) kX9_turn w_933 hm1 rfl rfl rfl rfl (Nat.le_of_ble_eq_true rfl) dL_law_384 ⟨Nat.le_of_ble_eq_true rfl, Nat.le_of_ble_eq_true rfl⟩ ⟨(show ce + 1 + 1 ≤ 641004 by omega), (show sl + 6 + 16 ≤ 7173092 by omega)⟩ (fun v2 h2 n2 p2 hn2 => ?_) (fun E h9 n9 p9 _ => by obtain ⟨e9, -⟩ := p9; cases e9)
    have hv2 : v2 = some (.int (bI (false))) := by have e9 := p2.1; rw [hx9] at e9; exact Sum.inl.inj e9
    obtain ⟨own2, I2, pf2, pg2⟩ := I.B hn1 pH pf hg1 (k_turn hσ (xs (i + 1)) (xs (i + 2))) p2
    rw [hx9] at I2
    have I3 : LInv G own2 h2 n2 q (c + 1) _ (nI 1) := I2
    subst hv2
    obtain ⟨s3, hm3⟩ := I3.1.2.2.1
    refine aw_istore (L' := [(7, .int (bI (false))), (6, .int (nI (1))), (0, .ref (b)), (1, .ref (q)), (2, .ref (q + 204)), (3, .ref (q + 207)), (4, .ref (q + 208)), (5, .int (nI (i)))]) dL_law_387 (by decide) rfl ?_
    refine aw_aload_n dL_law_389 rfl ?_
    refine aw_callVR (As := []) (rest := []) (c_X9_thrown G hm3) kX9_thrown w_746 hm3 rfl rfl rfl rfl (Nat.le_of_ble_eq_true rfl) dL_law_390 ⟨Nat.le_of_ble_eq_true rfl, Nat.le_of_ble_eq_true rfl⟩ ⟨(show ce + 1 + 1 + 0 ≤ 641004 by omega), (show sl + 6 + 16 + 0 ≤ 7173092 by omega)⟩ ?_
    refine aw_iload dL_law_393 rfl ?_
    refine aw_icmp_eqN (tgt := 400) (by omega) (by omega) dL_law_395 (by decide) (fun cz => ?_) (fun cz => absurd cz (by omega))
    refine aw_iload dL_law_400 rfl ?_
    refine aw_if_neN (tgt := 424) (by omega) dL_law_402 (by decide) (fun cy => ?_) (fun cy => absurd cy (by omega))
    refine aw_goto (tgt := 1650) dL_law_424 (by decide) ?_
    refine aw_widen (cells' := ce + 893) (slots' := sl + 10108) (by omega) (by omega) ?_
    refine aw_sub (L' := [(0, .ref (b)), (1, .ref (q)), (2, .ref (q + 204)), (3, .ref (q + 207)), (4, .ref (q + 208)), (5, .int (nI (i)))]) [2, 3, 4, 5, 6, 7] rfl ?_
    exact K _ _ _ _ _ I3
set_option maxHeartbeats 4000000 in
set_option maxRecDepth 20000 in
theorem law_sequence (G : aG) {b L q i c nx : Nat} {xs : Nat → Int32} {own : Nat → Nat} {h : aH} {σ : aSg} {th : Int32} {ce sl : Nat} (I : LInv G own h nx q c σ th) (hc9 : c ≤ 511) (hi : i + 5 ≤ L) (hL : L ≤ 2560) (hG : G.2.2.2 < q) (hce : ce + 893 ≤ 641004) (hsl : sl + 10108 ≤ 7173092) (K : ∀ (own1 : Nat → Nat) (h1 : aH) (nx1 : Nat) (σ1 : aSg) (th1 : Int32), LInv G own1 h1 nx1 q (c + 1) σ1 th1 → aw G mL_law [] room_1 (lawQ G b L xs) (ce + 893) (sl + 10108) h1 nx1 1650 [(0, .ref (b)), (1, .ref (q)), (2, .ref (q + 204)), (3, .ref (q + 207)), (4, .ref (q + 208)), (5, .int (nI (i)))] []) : aw G mL_law [] room_1 (lawQ G b L xs) ce sl h nx 427 [(0, .ref (b)), (1, .ref (q)), (2, .ref (q + 204)), (3, .ref (q + 207)), (4, .ref (q + 208)), (5, .int (nI (i)))] [] := by
  have I0 := I
  obtain ⟨hM, hH, hσ, hO1, ⟨hO2, hO3⟩, ⟨f0, hf0⟩, ⟨g0, hg0⟩, hnx⟩ := I0
  rcases o_sequence σ  with ⟨x9, hx9⟩ | hx9
  · skip
    refine aw_aload_n dL_law_427 rfl ?_
    refine aw_aload_n dL_law_428 rfl ?_
    refine aw_callH (As := [.ref (q), .ref (q + 207)]) (rest := []) (l_sequence G hH hσ (by omega) (Or.inr (by omega)) hf0 ) kL_sequence w_597 rfl rfl (Nat.le_of_ble_eq_true rfl) dL_law_429 ⟨Nat.le_of_ble_eq_true rfl, Nat.le_of_ble_eq_true rfl⟩ ⟨(show ce + 1 ≤ 641004 by omega), (show sl + 6 ≤ 7173092 by omega)⟩ (fun v1 h1 n1 p1 hn1 => ?_) (fun E h9 n9 p9 _ => by obtain ⟨e9, -⟩ := p9; cases e9)
    obtain ⟨pv1, -, pH, po, f1, pf, pval⟩ := p1
    have hv1 : v1 = some (.int (nI 0)) := by have e9 := pv1; rw [hx9] at e9; exact Sum.inl.inj e9
    subst hv1
    have hg1 := (po (q + 208) (Or.inr (by omega)) (by omega)).trans hg0
    have hM1 := I.A hn1 (fun b z1 z2 z3 => po b z1 z2)
    obtain ⟨s1, hm1⟩ := hM1.2.2.1
    refine aw_istore (L' := [(6, .int (nI (0))), (0, .ref (b)), (1, .ref (q)), (2, .ref (q + 204)), (3, .ref (q + 207)), (4, .ref (q + 208)), (5, .int (nI (i)))]) dL_law_432 (by decide) rfl ?_
    refine aw_aload_n dL_law_434 rfl ?_
    refine aw_callV (As := []) (rest := []) (m_X9_sequence G hM1 hσ (by omega) (by omega) ) kX9_sequence w_948 hm1 rfl rfl rfl rfl (Nat.le_of_ble_eq_true rfl) dL_law_435 ⟨Nat.le_of_ble_eq_true rfl, Nat.le_of_ble_eq_true rfl⟩ ⟨(show ce + 1 + 2 ≤ 641004 by omega), (show sl + 6 + 63 ≤ 7173092 by omega)⟩ (fun v2 h2 n2 p2 hn2 => ?_) (fun E h9 n9 p9 _ => by obtain ⟨e9, -⟩ := p9; cases e9)
    have hv2 : v2 = some (.int (x9)) := by have e9 := p2.1; rw [hx9] at e9; exact Sum.inl.inj e9
    obtain ⟨own2, I2, pf2, pg2⟩ := I.B hn1 pH pf hg1 (k_sequence hσ ) p2
    rw [hx9] at I2
    have I3 : LInv G own2 h2 n2 q (c + 1) _ (nI 0) := I2
    subst hv2
    obtain ⟨s3, hm3⟩ := I3.1.2.2.1
    refine aw_istore (L' := [(7, .int (x9)), (6, .int (nI (0))), (0, .ref (b)), (1, .ref (q)), (2, .ref (q + 204)), (3, .ref (q + 207)), (4, .ref (q + 208)), (5, .int (nI (i)))]) dL_law_438 (by decide) rfl ?_
    refine aw_aload_n dL_law_440 rfl ?_
    refine aw_callVR (As := []) (rest := []) (c_X9_thrown G hm3) kX9_thrown w_746 hm3 rfl rfl rfl rfl (Nat.le_of_ble_eq_true rfl) dL_law_441 ⟨Nat.le_of_ble_eq_true rfl, Nat.le_of_ble_eq_true rfl⟩ ⟨(show ce + 1 + 2 + 0 ≤ 641004 by omega), (show sl + 6 + 63 + 0 ≤ 7173092 by omega)⟩ ?_
    refine aw_iload dL_law_444 rfl ?_
    refine aw_icmp_eqN (tgt := 451) (by omega) (by omega) dL_law_446 (by decide) (fun cz => ?_) (fun cz => absurd cz (by omega))
    refine aw_iload dL_law_451 rfl ?_
    refine aw_if_neN (tgt := 468) (by omega) dL_law_453 (by decide) (fun cy => absurd cy (by omega)) (fun cy => ?_)
    refine aw_aload_n dL_law_456 rfl ?_
    refine aw_ic dL_law_457 ic_0 ?_
    refine aw_laload pf2 (by omega) (by omega) dL_law_458 ?_
    refine aw_iload dL_law_459 rfl ?_
    refine aw_i2l dL_law_461 ?_
    refine aw_lcmp dL_law_462 ?_
    refine aw_top (show (lg_cmp (f1 0) ((x9)).toInt64) = (nI (0)) from (by rw [pval x9 hx9]; exact lg_self _)) ?_
    refine aw_if_eqN (tgt := 468) (by omega) dL_law_463 (by decide) (fun cx => ?_) (fun cx => absurd cx (by omega))
    refine aw_goto (tgt := 1650) dL_law_468 (by decide) ?_
    refine aw_widen (cells' := ce + 893) (slots' := sl + 10108) (by omega) (by omega) ?_
    refine aw_sub (L' := [(0, .ref (b)), (1, .ref (q)), (2, .ref (q + 204)), (3, .ref (q + 207)), (4, .ref (q + 208)), (5, .int (nI (i)))]) [2, 3, 4, 5, 6, 7] rfl ?_
    exact K _ _ _ _ _ I3
  · skip
    refine aw_aload_n dL_law_427 rfl ?_
    refine aw_aload_n dL_law_428 rfl ?_
    refine aw_callH (As := [.ref (q), .ref (q + 207)]) (rest := []) (l_sequence G hH hσ (by omega) (Or.inr (by omega)) hf0 ) kL_sequence w_597 rfl rfl (Nat.le_of_ble_eq_true rfl) dL_law_429 ⟨Nat.le_of_ble_eq_true rfl, Nat.le_of_ble_eq_true rfl⟩ ⟨(show ce + 1 ≤ 641004 by omega), (show sl + 6 ≤ 7173092 by omega)⟩ (fun v1 h1 n1 p1 hn1 => ?_) (fun E h9 n9 p9 _ => by obtain ⟨e9, -⟩ := p9; cases e9)
    obtain ⟨pv1, -, pH, po, f1, pf, pval⟩ := p1
    have hv1 : v1 = some (.int (nI 1)) := by have e9 := pv1; rw [hx9] at e9; exact Sum.inl.inj e9
    subst hv1
    have hg1 := (po (q + 208) (Or.inr (by omega)) (by omega)).trans hg0
    have hM1 := I.A hn1 (fun b z1 z2 z3 => po b z1 z2)
    obtain ⟨s1, hm1⟩ := hM1.2.2.1
    refine aw_istore (L' := [(6, .int (nI (1))), (0, .ref (b)), (1, .ref (q)), (2, .ref (q + 204)), (3, .ref (q + 207)), (4, .ref (q + 208)), (5, .int (nI (i)))]) dL_law_432 (by decide) rfl ?_
    refine aw_aload_n dL_law_434 rfl ?_
    refine aw_callV (As := []) (rest := []) (m_X9_sequence G hM1 hσ (by omega) (by omega) ) kX9_sequence w_948 hm1 rfl rfl rfl rfl (Nat.le_of_ble_eq_true rfl) dL_law_435 ⟨Nat.le_of_ble_eq_true rfl, Nat.le_of_ble_eq_true rfl⟩ ⟨(show ce + 1 + 2 ≤ 641004 by omega), (show sl + 6 + 63 ≤ 7173092 by omega)⟩ (fun v2 h2 n2 p2 hn2 => ?_) (fun E h9 n9 p9 _ => by obtain ⟨e9, -⟩ := p9; cases e9)
    have hv2 : v2 = some (.int (nI (0))) := by have e9 := p2.1; rw [hx9] at e9; exact Sum.inl.inj e9
    obtain ⟨own2, I2, pf2, pg2⟩ := I.B hn1 pH pf hg1 (k_sequence hσ ) p2
    rw [hx9] at I2
    have I3 : LInv G own2 h2 n2 q (c + 1) _ (nI 1) := I2
    subst hv2
    obtain ⟨s3, hm3⟩ := I3.1.2.2.1
    refine aw_istore (L' := [(7, .int (nI (0))), (6, .int (nI (1))), (0, .ref (b)), (1, .ref (q)), (2, .ref (q + 204)), (3, .ref (q + 207)), (4, .ref (q + 208)), (5, .int (nI (i)))]) dL_law_438 (by decide) rfl ?_
    refine aw_aload_n dL_law_440 rfl ?_
    refine aw_callVR (As := []) (rest := []) (c_X9_thrown G hm3) kX9_thrown w_746 hm3 rfl rfl rfl rfl (Nat.le_of_ble_eq_true rfl) dL_law_441 ⟨Nat.le_of_ble_eq_true rfl, Nat.le_of_ble_eq_true rfl⟩ ⟨(show ce + 1 + 2 + 0 ≤ 641004 by omega), (show sl + 6 + 63 + 0 ≤ 7173092 by omega)⟩ ?_
    refine aw_iload dL_law_444 rfl ?_
    refine aw_icmp_eqN (tgt := 451) (by omega) (by omega) dL_law_446 (by decide) (fun cz => ?_) (fun cz => absurd cz (by omega))
    refine aw_iload dL_law_451 rfl ?_
    refine aw_if_neN (tgt := 468) (by omega) dL_law_453 (by decide) (fun cy => ?_) (fun cy => absurd cy (by omega))
    refine aw_goto (tgt := 1650) dL_law_468 (by decide) ?_
    refine aw_widen (cells' := ce + 893) (slots' := sl + 10108) (by omega) (by omega) ?_
    refine aw_sub (L' := [(0, .ref (b)), (1, .ref (q)), (2, .ref (q + 204)), (3, .ref (q + 207)), (4, .ref (q + 208)), (5, .int (nI (i)))]) [2, 3, 4, 5, 6, 7] rfl ?_
    exact K _ _ _ _ _ I3
set_option maxHeartbeats 4000000 in
set_option maxRecDepth 20000 in
theorem law_step (G : aG) {b L q i c nx : Nat} {xs : Nat → Int32} {own : Nat → Nat} {h : aH} {σ : aSg} {th : Int32} {ce sl : Nat} (I : LInv G own h nx q c σ th) (hc9 : c ≤ 511) (hi : i + 5 ≤ L) (hL : L ≤ 2560) (hG : G.2.2.2 < q) (hce : ce + 893 ≤ 641004) (hsl : sl + 10108 ≤ 7173092) (K : ∀ (own1 : Nat → Nat) (h1 : aH) (nx1 : Nat) (σ1 : aSg) (th1 : Int32), LInv G own1 h1 nx1 q (c + 1) σ1 th1 → aw G mL_law [] room_1 (lawQ G b L xs) (ce + 893) (sl + 10108) h1 nx1 1650 [(0, .ref (b)), (1, .ref (q)), (2, .ref (q + 204)), (3, .ref (q + 207)), (4, .ref (q + 208)), (5, .int (nI (i)))] []) : aw G mL_law [] room_1 (lawQ G b L xs) ce sl h nx 471 [(0, .ref (b)), (1, .ref (q)), (2, .ref (q + 204)), (3, .ref (q + 207)), (4, .ref (q + 208)), (5, .int (nI (i)))] [] := by
  have I0 := I
  obtain ⟨hM, hH, hσ, hO1, ⟨hO2, hO3⟩, ⟨f0, hf0⟩, ⟨g0, hg0⟩, hnx⟩ := I0
  rcases o_step σ (xs (i + 1)) (xs (i + 2)) (xs (i + 3)) with ⟨x9, hx9⟩ | hx9 | hx9 | hx9
  · skip
    refine aw_aload_n dL_law_471 rfl ?_
    refine aw_aload_n dL_law_472 rfl ?_
    refine aw_iload dL_law_473 rfl ?_
    refine aw_ic dL_law_475 ic_1 ?_
    refine aw_iaddN dL_law_476 ?_
    refine aw_sld (by omega) hL dL_law_477 ?_
    refine aw_aload_n dL_law_478 rfl ?_
    refine aw_iload dL_law_479 rfl ?_
    refine aw_ic dL_law_481 ic_2 ?_
    refine aw_iaddN dL_law_482 ?_
    refine aw_sld (by omega) hL dL_law_483 ?_
    refine aw_aload_n dL_law_484 rfl ?_
    refine aw_iload dL_law_485 rfl ?_
    refine aw_ic dL_law_487 ic_3 ?_
    refine aw_iaddN dL_law_488 ?_
    refine aw_sld (by omega) hL dL_law_489 ?_
    refine aw_aload_n dL_law_490 rfl ?_
    refine aw_callH (As := [.ref (q), .int (xs (i + 1)), .int (xs (i + 2)), .int (xs (i + 3)), .ref (q + 207)]) (rest := []) (l_step G hH hσ (by omega) (Or.inr (by omega)) hf0 (xs (i + 1)) (xs (i + 2)) (xs (i + 3))) kL_step w_605 rfl rfl (Nat.le_of_ble_eq_true rfl) dL_law_491 ⟨Nat.le_of_ble_eq_true rfl, Nat.le_of_ble_eq_true rfl⟩ ⟨(show ce + 1 ≤ 641004 by omega), (show sl + 6 ≤ 7173092 by omega)⟩ (fun v1 h1 n1 p1 hn1 => ?_) (fun E h9 n9 p9 _ => by obtain ⟨e9, -⟩ := p9; cases e9)
    obtain ⟨pv1, -, pH, po, f1, pf, pval⟩ := p1
    have hv1 : v1 = some (.int (nI 0)) := by have e9 := pv1; rw [hx9] at e9; exact Sum.inl.inj e9
    subst hv1
    have hg1 := (po (q + 208) (Or.inr (by omega)) (by omega)).trans hg0
    have hM1 := I.A hn1 (fun b z1 z2 z3 => po b z1 z2)
    obtain ⟨s1, hm1⟩ := hM1.2.2.1
    refine aw_istore (L' := [(6, .int (nI (0))), (0, .ref (b)), (1, .ref (q)), (2, .ref (q + 204)), (3, .ref (q + 207)), (4, .ref (q + 208)), (5, .int (nI (i)))]) dL_law_494 (by decide) rfl ?_
    refine aw_aload_n dL_law_496 rfl ?_
    refine aw_aload_n dL_law_497 rfl ?_
    refine aw_iload dL_law_498 rfl ?_
    refine aw_ic dL_law_500 ic_1 ?_
    refine aw_iaddN dL_law_501 ?_
    refine aw_sld (by omega) hL dL_law_502 ?_
    refine aw_aload_n dL_law_503 rfl ?_
    refine aw_iload dL_law_504 rfl ?_
    refine aw_ic dL_law_506 ic_2 ?_
    refine aw_iaddN dL_law_507 ?_
    refine aw_sld (by omega) hL dL_law_508 ?_
    refine aw_aload_n dL_law_509 rfl ?_
    refine aw_iload dL_law_510 rfl ?_
    refine aw_ic dL_law_512 ic_3 ?_
    refine aw_iaddN dL_law_513 ?_
    refine aw_sld (by omega) hL dL_law_514 ?_
    refine aw_callV (As := [.int (xs (i + 1)), .int (xs (i + 2)), .int (xs (i + 3))]) (rest := []) (m_X9_step G hM1 hσ (by omega) (xs (i + 1)) (xs (i + 2)) (xs (i + 3))) kX9_step w_952 hm1 rfl rfl rfl rfl (Nat.le_of_ble_eq_true rfl) dL_law_515 ⟨Nat.le_of_ble_eq_true rfl, Nat.le_of_ble_eq_true rfl⟩ ⟨(show ce + 1 + 2 ≤ 641004 by omega), (show sl + 6 + 62 ≤ 7173092 by omega)⟩ (fun v2 h2 n2 p2 hn2 => ?_) (fun E h9 n9 p9 _ => by obtain ⟨e9, -⟩ := p9; cases e9)
    have hv2 : v2 = some (.int (x9)) := by have e9 := p2.1; rw [hx9] at e9; exact Sum.inl.inj e9
    obtain ⟨own2, I2, pf2, pg2⟩ := I.B hn1 pH pf hg1 (k_step hσ (xs (i + 1)) (xs (i + 2)) (xs (i + 3))) p2
    rw [hx9] at I2
    have I3 : LInv G own2 h2 n2 q (c + 1) _ (nI 0) := I2
    subst hv2
    obtain ⟨s3, hm3⟩ := I3.1.2.2.1
    refine aw_istore (L' := [(7, .int (x9)), (6, .int (nI (0))), (0, .ref (b)), (1, .ref (q)), (2, .ref (q + 204)), (3, .ref (q + 207)), (4, .ref (q + 208)), (5, .int (nI (i)))]) dL_law_518 (by decide) rfl ?_
    refine aw_aload_n dL_law_520 rfl ?_
    refine aw_callVR (As := []) (rest := []) (c_X9_thrown G hm3) kX9_thrown w_746 hm3 rfl rfl rfl rfl (Nat.le_of_ble_eq_true rfl) dL_law_521 ⟨Nat.le_of_ble_eq_true rfl, Nat.le_of_ble_eq_true rfl⟩ ⟨(show ce + 1 + 2 + 0 ≤ 641004 by omega), (show sl + 6 + 62 + 0 ≤ 7173092 by omega)⟩ ?_
    refine aw_iload dL_law_524 rfl ?_
    refine aw_icmp_eqN (tgt := 531) (by omega) (by omega) dL_law_526 (by decide) (fun cz => ?_) (fun cz => absurd cz (by omega))
    refine aw_iload dL_law_531 rfl ?_
    refine aw_if_neN (tgt := 548) (by omega) dL_law_533 (by decide) (fun cy => absurd cy (by omega)) (fun cy => ?_)
    refine aw_aload_n dL_law_536 rfl ?_
    refine aw_ic dL_law_537 ic_0 ?_
    refine aw_laload pf2 (by omega) (by omega) dL_law_538 ?_
    refine aw_iload dL_law_539 rfl ?_
    refine aw_i2l dL_law_541 ?_
    refine aw_lcmp dL_law_542 ?_
    refine aw_top (show (lg_cmp (f1 0) ((x9)).toInt64) = (nI (0)) from (by rw [pval x9 hx9]; exact lg_self _)) ?_
    refine aw_if_eqN (tgt := 548) (by omega) dL_law_543 (by decide) (fun cx => ?_) (fun cx => absurd cx (by omega))
    refine aw_goto (tgt := 1650) dL_law_548 (by decide) ?_
    refine aw_widen (cells' := ce + 893) (slots' := sl + 10108) (by omega) (by omega) ?_
    refine aw_sub (L' := [(0, .ref (b)), (1, .ref (q)), (2, .ref (q + 204)), (3, .ref (q + 207)), (4, .ref (q + 208)), (5, .int (nI (i)))]) [2, 3, 4, 5, 6, 7] rfl ?_
    exact K _ _ _ _ _ I3
  · skip
    refine aw_aload_n dL_law_471 rfl ?_
    refine aw_aload_n dL_law_472 rfl ?_
    refine aw_iload dL_law_473 rfl ?_
    refine aw_ic dL_law_475 ic_1 ?_
    refine aw_iaddN dL_law_476 ?_
    refine aw_sld (by omega) hL dL_law_477 ?_
    refine aw_aload_n dL_law_478 rfl ?_
    refine aw_iload dL_law_479 rfl ?_
    refine aw_ic dL_law_481 ic_2 ?_
    refine aw_iaddN dL_law_482 ?_
    refine aw_sld (by omega) hL dL_law_483 ?_
    refine aw_aload_n dL_law_484 rfl ?_
    refine aw_iload dL_law_485 rfl ?_
    refine aw_ic dL_law_487 ic_3 ?_
    refine aw_iaddN dL_law_488 ?_
    refine aw_sld (by omega) hL dL_law_489 ?_
    refine aw_aload_n dL_law_490 rfl ?_
    refine aw_callH (As := [.ref (q), .int (xs (i + 1)), .int (xs (i + 2)), .int (xs (i + 3)), .ref (q + 207)]) (rest := []) (l_step G hH hσ (by omega) (Or.inr (by omega)) hf0 (xs (i + 1)) (xs (i + 2)) (xs (i + 3))) kL_step w_605 rfl rfl (Nat.le_of_ble_eq_true rfl) dL_law_491 ⟨Nat.le_of_ble_eq_true rfl, Nat.le_of_ble_eq_true rfl⟩ ⟨(show ce + 1 ≤ 641004 by omega), (show sl + 6 ≤ 7173092 by omega)⟩ (fun v1 h1 n1 p1 hn1 => ?_) (fun E h9 n9 p9 _ => by obtain ⟨e9, -⟩ := p9; cases e9)
    obtain ⟨pv1, -, pH, po, f1, pf, pval⟩ := p1
    have hv1 : v1 = some (.int (nI 1)) := by have e9 := pv1; rw [hx9] at e9; exact Sum.inl.inj e9
    subst hv1
    have hg1 := (po (q + 208) (Or.inr (by omega)) (by omega)).trans hg0
    have hM1 := I.A hn1 (fun b z1 z2 z3 => po b z1 z2)
    obtain ⟨s1, hm1⟩ := hM1.2.2.1
    refine aw_istore (L' := [(6, .int (nI (1))), (0, .ref (b)), (1, .ref (q)), (2, .ref (q + 204)), (3, .ref (q + 207)), (4, .ref (q + 208)), (5, .int (nI (i)))]) dL_law_494 (by decide) rfl ?_
    refine aw_aload_n dL_law_496 rfl ?_
    refine aw_aload_n dL_law_497 rfl ?_
    refine aw_iload dL_law_498 rfl ?_
    refine aw_ic dL_law_500 ic_1 ?_
    refine aw_iaddN dL_law_501 ?_
    refine aw_sld (by omega) hL dL_law_502 ?_
    refine aw_aload_n dL_law_503 rfl ?_
    refine aw_iload dL_law_504 rfl ?_
    refine aw_ic dL_law_506 ic_2 ?_
    refine aw_iaddN dL_law_507 ?_
    refine aw_sld (by omega) hL dL_law_508 ?_
    refine aw_aload_n dL_law_509 rfl ?_
    refine aw_iload dL_law_510 rfl ?_
    refine aw_ic dL_law_512 ic_3 ?_
    refine aw_iaddN dL_law_513 ?_
    refine aw_sld (by omega) hL dL_law_514 ?_
    refine aw_callV (As := [.int (xs (i + 1)), .int (xs (i + 2)), .int (xs (i + 3))]) (rest := []) (m_X9_step G hM1 hσ (by omega) (xs (i + 1)) (xs (i + 2)) (xs (i + 3))) kX9_step w_952 hm1 rfl rfl rfl rfl (Nat.le_of_ble_eq_true rfl) dL_law_515 ⟨Nat.le_of_ble_eq_true rfl, Nat.le_of_ble_eq_true rfl⟩ ⟨(show ce + 1 + 2 ≤ 641004 by omega), (show sl + 6 + 62 ≤ 7173092 by omega)⟩ (fun v2 h2 n2 p2 hn2 => ?_) (fun E h9 n9 p9 _ => by obtain ⟨e9, -⟩ := p9; cases e9)
    have hv2 : v2 = some (.int (nI (0))) := by have e9 := p2.1; rw [hx9] at e9; exact Sum.inl.inj e9
    obtain ⟨own2, I2, pf2, pg2⟩ := I.B hn1 pH pf hg1 (k_step hσ (xs (i + 1)) (xs (i + 2)) (xs (i + 3))) p2
    rw [hx9] at I2
    have I3 : LInv G own2 h2 n2 q (c + 1) _ (nI 1) := I2
    subst hv2
    obtain ⟨s3, hm3⟩ := I3.1.2.2.1
    refine aw_istore (L' := [(7, .int (nI (0))), (6, .int (nI (1))), (0, .ref (b)), (1, .ref (q)), (2, .ref (q + 204)), (3, .ref (q + 207)), (4, .ref (q + 208)), (5, .int (nI (i)))]) dL_law_518 (by decide) rfl ?_
    refine aw_aload_n dL_law_520 rfl ?_
    refine aw_callVR (As := []) (rest := []) (c_X9_thrown G hm3) kX9_thrown w_746 hm3 rfl rfl rfl rfl (Nat.le_of_ble_eq_true rfl) dL_law_521 ⟨Nat.le_of_ble_eq_true rfl, Nat.le_of_ble_eq_true rfl⟩ ⟨(show ce + 1 + 2 + 0 ≤ 641004 by omega), (show sl + 6 + 62 + 0 ≤ 7173092 by omega)⟩ ?_
    refine aw_iload dL_law_524 rfl ?_
    refine aw_icmp_eqN (tgt := 531) (by omega) (by omega) dL_law_526 (by decide) (fun cz => ?_) (fun cz => absurd cz (by omega))
    refine aw_iload dL_law_531 rfl ?_
    refine aw_if_neN (tgt := 548) (by omega) dL_law_533 (by decide) (fun cy => ?_) (fun cy => absurd cy (by omega))
    refine aw_goto (tgt := 1650) dL_law_548 (by decide) ?_
    refine aw_widen (cells' := ce + 893) (slots' := sl + 10108) (by omega) (by omega) ?_
    refine aw_sub (L' := [(0, .ref (b)), (1, .ref (q)), (2, .ref (q + 204)), (3, .ref (q + 207)), (4, .ref (q + 208)), (5, .int (nI (i)))]) [2, 3, 4, 5, 6, 7] rfl ?_
    exact K _ _ _ _ _ I3
  · skip
    refine aw_aload_n dL_law_471 rfl ?_
    refine aw_aload_n dL_law_472 rfl ?_
    refine aw_iload dL_law_473 rfl ?_
    refine aw_ic dL_law_475 ic_1 ?_
    refine aw_iaddN dL_law_476 ?_
    refine aw_sld (by omega) hL dL_law_477 ?_
    refine aw_aload_n dL_law_478 rfl ?_
    refine aw_iload dL_law_479 rfl ?_
    refine aw_ic dL_law_481 ic_2 ?_
    refine aw_iaddN dL_law_482 ?_
    refine aw_sld (by omega) hL dL_law_483 ?_
    refine aw_aload_n dL_law_484 rfl ?_
    refine aw_iload dL_law_485 rfl ?_
    refine aw_ic dL_law_487 ic_3 ?_
    refine aw_iaddN dL_law_488 ?_
    refine aw_sld (by omega) hL dL_law_489 ?_
    refine aw_aload_n dL_law_490 rfl ?_
    refine aw_callH (As := [.ref (q), .int (xs (i + 1)), .int (xs (i + 2)), .int (xs (i + 3)), .ref (q + 207)]) (rest := []) (l_step G hH hσ (by omega) (Or.inr (by omega)) hf0 (xs (i + 1)) (xs (i + 2)) (xs (i + 3))) kL_step w_605 rfl rfl (Nat.le_of_ble_eq_true rfl) dL_law_491 ⟨Nat.le_of_ble_eq_true rfl, Nat.le_of_ble_eq_true rfl⟩ ⟨(show ce + 1 ≤ 641004 by omega), (show sl + 6 ≤ 7173092 by omega)⟩ (fun v1 h1 n1 p1 hn1 => ?_) (fun E h9 n9 p9 _ => by obtain ⟨e9, -⟩ := p9; cases e9)
    obtain ⟨pv1, -, pH, po, f1, pf, pval⟩ := p1
    have hv1 : v1 = some (.int (nI 2)) := by have e9 := pv1; rw [hx9] at e9; exact Sum.inl.inj e9
    subst hv1
    have hg1 := (po (q + 208) (Or.inr (by omega)) (by omega)).trans hg0
    have hM1 := I.A hn1 (fun b z1 z2 z3 => po b z1 z2)
    obtain ⟨s1, hm1⟩ := hM1.2.2.1
    refine aw_istore (L' := [(6, .int (nI (2))), (0, .ref (b)), (1, .ref (q)), (2, .ref (q + 204)), (3, .ref (q + 207)), (4, .ref (q + 208)), (5, .int (nI (i)))]) dL_law_494 (by decide) rfl ?_
    refine aw_aload_n dL_law_496 rfl ?_
    refine aw_aload_n dL_law_497 rfl ?_
    refine aw_iload dL_law_498 rfl ?_
    refine aw_ic dL_law_500 ic_1 ?_
    refine aw_iaddN dL_law_501 ?_
    refine aw_sld (by omega) hL dL_law_502 ?_
    refine aw_aload_n dL_law_503 rfl ?_
    refine aw_iload dL_law_504 rfl ?_
    refine aw_ic dL_law_506 ic_2 ?_
    refine aw_iaddN dL_law_507 ?_
    refine aw_sld (by omega) hL dL_law_508 ?_
    refine aw_aload_n dL_law_509 rfl ?_
    refine aw_iload dL_law_510 rfl ?_
    refine aw_ic dL_law_512 ic_3 ?_
    refine aw_iaddN dL_law_513 ?_
    refine aw_sld (by omega) hL dL_law_514 ?_
    refine aw_callV (As := [.int (xs (i + 1)), .int (xs (i + 2)), .int (xs (i + 3))]) (rest := []) (m_X9_step G hM1 hσ (by omega) (xs (i + 1)) (xs (i + 2)) (xs (i + 3))) kX9_step w_952 hm1 rfl rfl rfl rfl (Nat.le_of_ble_eq_true rfl) dL_law_515 ⟨Nat.le_of_ble_eq_true rfl, Nat.le_of_ble_eq_true rfl⟩ ⟨(show ce + 1 + 2 ≤ 641004 by omega), (show sl + 6 + 62 ≤ 7173092 by omega)⟩ (fun v2 h2 n2 p2 hn2 => ?_) (fun E h9 n9 p9 _ => by obtain ⟨e9, -⟩ := p9; cases e9)
    have hv2 : v2 = some (.int (nI (0))) := by have e9 := p2.1; rw [hx9] at e9; exact Sum.inl.inj e9
    obtain ⟨own2, I2, pf2, pg2⟩ := I.B hn1 pH pf hg1 (k_step hσ (xs (i + 1)) (xs (i + 2)) (xs (i + 3))) p2
    rw [hx9] at I2
    have I3 : LInv G own2 h2 n2 q (c + 1) _ (nI 2) := I2
    subst hv2
    obtain ⟨s3, hm3⟩ := I3.1.2.2.1
    refine aw_istore (L' := [(7, .int (nI (0))), (6, .int (nI (2))), (0, .ref (b)), (1, .ref (q)), (2, .ref (q + 204)), (3, .ref (q + 207)), (4, .ref (q + 208)), (5, .int (nI (i)))]) dL_law_518 (by decide) rfl ?_
    refine aw_aload_n dL_law_520 rfl ?_
    refine aw_callVR (As := []) (rest := []) (c_X9_thrown G hm3) kX9_thrown w_746 hm3 rfl rfl rfl rfl (Nat.le_of_ble_eq_true rfl) dL_law_521 ⟨Nat.le_of_ble_eq_true rfl, Nat.le_of_ble_eq_true rfl⟩ ⟨(show ce + 1 + 2 + 0 ≤ 641004 by omega), (show sl + 6 + 62 + 0 ≤ 7173092 by omega)⟩ ?_
    refine aw_iload dL_law_524 rfl ?_
    refine aw_icmp_eqN (tgt := 531) (by omega) (by omega) dL_law_526 (by decide) (fun cz => ?_) (fun cz => absurd cz (by omega))
    refine aw_iload dL_law_531 rfl ?_
    refine aw_if_neN (tgt := 548) (by omega) dL_law_533 (by decide) (fun cy => ?_) (fun cy => absurd cy (by omega))
    refine aw_goto (tgt := 1650) dL_law_548 (by decide) ?_
    refine aw_widen (cells' := ce + 893) (slots' := sl + 10108) (by omega) (by omega) ?_
    refine aw_sub (L' := [(0, .ref (b)), (1, .ref (q)), (2, .ref (q + 204)), (3, .ref (q + 207)), (4, .ref (q + 208)), (5, .int (nI (i)))]) [2, 3, 4, 5, 6, 7] rfl ?_
    exact K _ _ _ _ _ I3
  · skip
    refine aw_aload_n dL_law_471 rfl ?_
    refine aw_aload_n dL_law_472 rfl ?_
    refine aw_iload dL_law_473 rfl ?_
    refine aw_ic dL_law_475 ic_1 ?_
    refine aw_iaddN dL_law_476 ?_
    refine aw_sld (by omega) hL dL_law_477 ?_
    refine aw_aload_n dL_law_478 rfl ?_
    refine aw_iload dL_law_479 rfl ?_
    refine aw_ic dL_law_481 ic_2 ?_
    refine aw_iaddN dL_law_482 ?_
    refine aw_sld (by omega) hL dL_law_483 ?_
    refine aw_aload_n dL_law_484 rfl ?_
    refine aw_iload dL_law_485 rfl ?_
    refine aw_ic dL_law_487 ic_3 ?_
    refine aw_iaddN dL_law_488 ?_
    refine aw_sld (by omega) hL dL_law_489 ?_
    refine aw_aload_n dL_law_490 rfl ?_
    refine aw_callH (As := [.ref (q), .int (xs (i + 1)), .int (xs (i + 2)), .int (xs (i + 3)), .ref (q + 207)]) (rest := []) (l_step G hH hσ (by omega) (Or.inr (by omega)) hf0 (xs (i + 1)) (xs (i + 2)) (xs (i + 3))) kL_step w_605 rfl rfl (Nat.le_of_ble_eq_true rfl) dL_law_491 ⟨Nat.le_of_ble_eq_true rfl, Nat.le_of_ble_eq_true rfl⟩ ⟨(show ce + 1 ≤ 641004 by omega), (show sl + 6 ≤ 7173092 by omega)⟩ (fun v1 h1 n1 p1 hn1 => ?_) (fun E h9 n9 p9 _ => by obtain ⟨e9, -⟩ := p9; cases e9)
    obtain ⟨pv1, -, pH, po, f1, pf, pval⟩ := p1
    have hv1 : v1 = some (.int (nI 3)) := by have e9 := pv1; rw [hx9] at e9; exact Sum.inl.inj e9
    subst hv1
    have hg1 := (po (q + 208) (Or.inr (by omega)) (by omega)).trans hg0
    have hM1 := I.A hn1 (fun b z1 z2 z3 => po b z1 z2)
    obtain ⟨s1, hm1⟩ := hM1.2.2.1
    refine aw_istore (L' := [(6, .int (nI (3))), (0, .ref (b)), (1, .ref (q)), (2, .ref (q + 204)), (3, .ref (q + 207)), (4, .ref (q + 208)), (5, .int (nI (i)))]) dL_law_494 (by decide) rfl ?_
    refine aw_aload_n dL_law_496 rfl ?_
    refine aw_aload_n dL_law_497 rfl ?_
    refine aw_iload dL_law_498 rfl ?_
    refine aw_ic dL_law_500 ic_1 ?_
    refine aw_iaddN dL_law_501 ?_
    refine aw_sld (by omega) hL dL_law_502 ?_
    refine aw_aload_n dL_law_503 rfl ?_
    refine aw_iload dL_law_504 rfl ?_
    refine aw_ic dL_law_506 ic_2 ?_
    refine aw_iaddN dL_law_507 ?_
    refine aw_sld (by omega) hL dL_law_508 ?_
    refine aw_aload_n dL_law_509 rfl ?_
    refine aw_iload dL_law_510 rfl ?_
    refine aw_ic dL_law_512 ic_3 ?_
    refine aw_iaddN dL_law_513 ?_
    refine aw_sld (by omega) hL dL_law_514 ?_
    refine aw_callV (As := [.int (xs (i + 1)), .int (xs (i + 2)), .int (xs (i + 3))]) (rest := []) (m_X9_step G hM1 hσ (by omega) (xs (i + 1)) (xs (i + 2)) (xs (i + 3))) kX9_step w_952 hm1 rfl rfl rfl rfl (Nat.le_of_ble_eq_true rfl) dL_law_515 ⟨Nat.le_of_ble_eq_true rfl, Nat.le_of_ble_eq_true rfl⟩ ⟨(show ce + 1 + 2 ≤ 641004 by omega), (show sl + 6 + 62 ≤ 7173092 by omega)⟩ (fun v2 h2 n2 p2 hn2 => ?_) (fun E h9 n9 p9 _ => by obtain ⟨e9, -⟩ := p9; cases e9)
    have hv2 : v2 = some (.int (nI (0))) := by have e9 := p2.1; rw [hx9] at e9; exact Sum.inl.inj e9
    obtain ⟨own2, I2, pf2, pg2⟩ := I.B hn1 pH pf hg1 (k_step hσ (xs (i + 1)) (xs (i + 2)) (xs (i + 3))) p2
    rw [hx9] at I2
    have I3 : LInv G own2 h2 n2 q (c + 1) _ (nI 3) := I2
    subst hv2
    obtain ⟨s3, hm3⟩ := I3.1.2.2.1
    refine aw_istore (L' := [(7, .int (nI (0))), (6, .int (nI (3))), (0, .ref (b)), (1, .ref (q)), (2, .ref (q + 204)), (3, .ref (q + 207)), (4, .ref (q + 208)), (5, .int (nI (i)))]) dL_law_518 (by decide) rfl ?_
    refine aw_aload_n dL_law_520 rfl ?_
    refine aw_callVR (As := []) (rest := []) (c_X9_thrown G hm3) kX9_thrown w_746 hm3 rfl rfl rfl rfl (Nat.le_of_ble_eq_true rfl) dL_law_521 ⟨Nat.le_of_ble_eq_true rfl, Nat.le_of_ble_eq_true rfl⟩ ⟨(show ce + 1 + 2 + 0 ≤ 641004 by omega), (show sl + 6 + 62 + 0 ≤ 7173092 by omega)⟩ ?_
    refine aw_iload dL_law_524 rfl ?_
    refine aw_icmp_eqN (tgt := 531) (by omega) (by omega) dL_law_526 (by decide) (fun cz => ?_) (fun cz => absurd cz (by omega))
    refine aw_iload dL_law_531 rfl ?_
    refine aw_if_neN (tgt := 548) (by omega) dL_law_533 (by decide) (fun cy => ?_) (fun cy => absurd cy (by omega))
    refine aw_goto (tgt := 1650) dL_law_548 (by decide) ?_
    refine aw_widen (cells' := ce + 893) (slots' := sl + 10108) (by omega) (by omega) ?_
    refine aw_sub (L' := [(0, .ref (b)), (1, .ref (q)), (2, .ref (q + 204)), (3, .ref (q + 207)), (4, .ref (q + 208)), (5, .int (nI (i)))]) [2, 3, 4, 5, 6, 7] rfl ?_
    exact K _ _ _ _ _ I3
set_option maxHeartbeats 4000000 in
set_option maxRecDepth 20000 in
theorem law_perform (G : aG) {b L q i c nx : Nat} {xs : Nat → Int32} {own : Nat → Nat} {h : aH} {σ : aSg} {th : Int32} {ce sl : Nat} (I : LInv G own h nx q c σ th) (hc9 : c ≤ 511) (hi : i + 5 ≤ L) (hL : L ≤ 2560) (hG : G.2.2.2 < q) (hce : ce + 893 ≤ 641004) (hsl : sl + 10108 ≤ 7173092) (K : ∀ (own1 : Nat → Nat) (h1 : aH) (nx1 : Nat) (σ1 : aSg) (th1 : Int32), LInv G own1 h1 nx1 q (c + 1) σ1 th1 → aw G mL_law [] room_1 (lawQ G b L xs) (ce + 893) (sl + 10108) h1 nx1 1650 [(0, .ref (b)), (1, .ref (q)), (2, .ref (q + 204)), (3, .ref (q + 207)), (4, .ref (q + 208)), (5, .int (nI (i)))] []) : aw G mL_law [] room_1 (lawQ G b L xs) ce sl h nx 551 [(0, .ref (b)), (1, .ref (q)), (2, .ref (q + 204)), (3, .ref (q + 207)), (4, .ref (q + 208)), (5, .int (nI (i)))] [] := by
  have I0 := I
  obtain ⟨hM, hH, hσ, hO1, ⟨hO2, hO3⟩, ⟨f0, hf0⟩, ⟨g0, hg0⟩, hnx⟩ := I0
  rcases o_perform σ (xs (i + 1)) (xs (i + 2)) (xs (i + 3)) with ⟨x9, hx9⟩ | hx9 | hx9 | hx9
  · skip
    refine aw_aload_n dL_law_551 rfl ?_
    refine aw_aload_n dL_law_552 rfl ?_
    refine aw_iload dL_law_553 rfl ?_
    refine aw_ic dL_law_555 ic_1 ?_
    refine aw_iaddN dL_law_556 ?_
    refine aw_sld (by omega) hL dL_law_557 ?_
    refine aw_aload_n dL_law_558 rfl ?_
    refine aw_iload dL_law_559 rfl ?_
    refine aw_ic dL_law_561 ic_2 ?_
    refine aw_iaddN dL_law_562 ?_
    refine aw_sld (by omega) hL dL_law_563 ?_
    refine aw_aload_n dL_law_564 rfl ?_
    refine aw_iload dL_law_565 rfl ?_
    refine aw_ic dL_law_567 ic_3 ?_
    refine aw_iaddN dL_law_568 ?_
    refine aw_sld (by omega) hL dL_law_569 ?_
    refine aw_aload_n dL_law_570 rfl ?_
    refine aw_callH (As := [.ref (q), .int (xs (i + 1)), .int (xs (i + 2)), .int (xs (i + 3)), .ref (q + 207)]) (rest := []) (l_perform G hH hσ (by omega) (Or.inr (by omega)) hf0 (xs (i + 1)) (xs (i + 2)) (xs (i + 3))) kL_perform w_618 rfl rfl (Nat.le_of_ble_eq_true rfl) dL_law_571 ⟨Nat.le_of_ble_eq_true rfl, Nat.le_of_ble_eq_true rfl⟩ ⟨(show ce + 1 ≤ 641004 by omega), (show sl + 6 ≤ 7173092 by omega)⟩ (fun v1 h1 n1 p1 hn1 => ?_) (fun E h9 n9 p9 _ => by obtain ⟨e9, -⟩ := p9; cases e9)
    obtain ⟨pv1, -, pH, po, f1, pf, pval⟩ := p1
    have hv1 : v1 = some (.int (nI 0)) := by have e9 := pv1; rw [hx9] at e9; exact Sum.inl.inj e9
    subst hv1
    have hg1 := (po (q + 208) (Or.inr (by omega)) (by omega)).trans hg0
    have hM1 := I.A hn1 (fun b z1 z2 z3 => po b z1 z2)
    obtain ⟨s1, hm1⟩ := hM1.2.2.1
    refine aw_istore (L' := [(6, .int (nI (0))), (0, .ref (b)), (1, .ref (q)), (2, .ref (q + 204)), (3, .ref (q + 207)), (4, .ref (q + 208)), (5, .int (nI (i)))]) dL_law_574 (by decide) rfl ?_
    refine aw_aload_n dL_law_576 rfl ?_
    refine aw_aload_n dL_law_577 rfl ?_
    refine aw_iload dL_law_578 rfl ?_
    refine aw_ic dL_law_580 ic_1 ?_
    refine aw_iaddN dL_law_581 ?_
    refine aw_sld (by omega) hL dL_law_582 ?_
    refine aw_aload_n dL_law_583 rfl ?_
    refine aw_iload dL_law_584 rfl ?_
    refine aw_ic dL_law_586 ic_2 ?_
    refine aw_iaddN dL_law_587 ?_
    refine aw_sld (by omega) hL dL_law_588 ?_
    refine aw_aload_n dL_law_589 rfl ?_
    refine aw_iload dL_law_590 rfl ?_
    refine aw_ic dL_law_592 ic_3 ?_
    refine aw_iaddN dL_law_593 ?_
    refine aw_sld (by omega) hL dL_law_594 ?_
    refine aw_callV (As := [.int (xs (i + 1)), .int (xs (i + 2)), .int (xs (i + 3))]) (rest := []) (m_X9_perform G hM1 hσ (by omega) (xs (i + 1)) (xs (i + 2)) (xs (i + 3))) kX9_perform w_960 hm1 rfl rfl rfl rfl (Nat.le_of_ble_eq_true rfl) dL_law_595 ⟨Nat.le_of_ble_eq_true rfl, Nat.le_of_ble_eq_true rfl⟩ ⟨(show ce + 1 + 180 ≤ 641004 by omega), (show sl + 6 + 2140 ≤ 7173092 by omega)⟩ (fun v2 h2 n2 p2 hn2 => ?_) (fun E h9 n9 p9 _ => by obtain ⟨e9, -⟩ := p9; cases e9)
    have hv2 : v2 = some (.int (x9)) := by have e9 := p2.1; rw [hx9] at e9; exact Sum.inl.inj e9
    obtain ⟨own2, I2, pf2, pg2⟩ := I.B hn1 pH pf hg1 (k_perform hσ (xs (i + 1)) (xs (i + 2)) (xs (i + 3))) p2
    rw [hx9] at I2
    have I3 : LInv G own2 h2 n2 q (c + 1) _ (nI 0) := I2
    subst hv2
    obtain ⟨s3, hm3⟩ := I3.1.2.2.1
    refine aw_istore (L' := [(7, .int (x9)), (6, .int (nI (0))), (0, .ref (b)), (1, .ref (q)), (2, .ref (q + 204)), (3, .ref (q + 207)), (4, .ref (q + 208)), (5, .int (nI (i)))]) dL_law_598 (by decide) rfl ?_
    refine aw_aload_n dL_law_600 rfl ?_
    refine aw_callVR (As := []) (rest := []) (c_X9_thrown G hm3) kX9_thrown w_746 hm3 rfl rfl rfl rfl (Nat.le_of_ble_eq_true rfl) dL_law_601 ⟨Nat.le_of_ble_eq_true rfl, Nat.le_of_ble_eq_true rfl⟩ ⟨(show ce + 1 + 180 + 0 ≤ 641004 by omega), (show sl + 6 + 2140 + 0 ≤ 7173092 by omega)⟩ ?_
    refine aw_iload dL_law_604 rfl ?_
    refine aw_icmp_eqN (tgt := 611) (by omega) (by omega) dL_law_606 (by decide) (fun cz => ?_) (fun cz => absurd cz (by omega))
    refine aw_iload dL_law_611 rfl ?_
    refine aw_if_neN (tgt := 628) (by omega) dL_law_613 (by decide) (fun cy => absurd cy (by omega)) (fun cy => ?_)
    refine aw_aload_n dL_law_616 rfl ?_
    refine aw_ic dL_law_617 ic_0 ?_
    refine aw_laload pf2 (by omega) (by omega) dL_law_618 ?_
    refine aw_iload dL_law_619 rfl ?_
    refine aw_i2l dL_law_621 ?_
    refine aw_lcmp dL_law_622 ?_
    refine aw_top (show (lg_cmp (f1 0) ((x9)).toInt64) = (nI (0)) from (by rw [pval x9 hx9]; exact lg_self _)) ?_
    refine aw_if_eqN (tgt := 628) (by omega) dL_law_623 (by decide) (fun cx => ?_) (fun cx => absurd cx (by omega))
    refine aw_goto (tgt := 1650) dL_law_628 (by decide) ?_
    refine aw_widen (cells' := ce + 893) (slots' := sl + 10108) (by omega) (by omega) ?_
    refine aw_sub (L' := [(0, .ref (b)), (1, .ref (q)), (2, .ref (q + 204)), (3, .ref (q + 207)), (4, .ref (q + 208)), (5, .int (nI (i)))]) [2, 3, 4, 5, 6, 7] rfl ?_
    exact K _ _ _ _ _ I3
  · skip
    refine aw_aload_n dL_law_551 rfl ?_
    refine aw_aload_n dL_law_552 rfl ?_
    refine aw_iload dL_law_553 rfl ?_
    refine aw_ic dL_law_555 ic_1 ?_
    refine aw_iaddN dL_law_556 ?_
    refine aw_sld (by omega) hL dL_law_557 ?_
    refine aw_aload_n dL_law_558 rfl ?_
    refine aw_iload dL_law_559 rfl ?_
    refine aw_ic dL_law_561 ic_2 ?_
    refine aw_iaddN dL_law_562 ?_
    refine aw_sld (by omega) hL dL_law_563 ?_
    refine aw_aload_n dL_law_564 rfl ?_
    refine aw_iload dL_law_565 rfl ?_
    refine aw_ic dL_law_567 ic_3 ?_
    refine aw_iaddN dL_law_568 ?_
    refine aw_sld (by omega) hL dL_law_569 ?_
    refine aw_aload_n dL_law_570 rfl ?_
    refine aw_callH (As := [.ref (q), .int (xs (i + 1)), .int (xs (i + 2)), .int (xs (i + 3)), .ref (q + 207)]) (rest := []) (l_perform G hH hσ (by omega) (Or.inr (by omega)) hf0 (xs (i + 1)) (xs (i + 2)) (xs (i + 3))) kL_perform w_618 rfl rfl (Nat.le_of_ble_eq_true rfl) dL_law_571 ⟨Nat.le_of_ble_eq_true rfl, Nat.le_of_ble_eq_true rfl⟩ ⟨(show ce + 1 ≤ 641004 by omega), (show sl + 6 ≤ 7173092 by omega)⟩ (fun v1 h1 n1 p1 hn1 => ?_) (fun E h9 n9 p9 _ => by obtain ⟨e9, -⟩ := p9; cases e9)
    obtain ⟨pv1, -, pH, po, f1, pf, pval⟩ := p1
    have hv1 : v1 = some (.int (nI 1)) := by have e9 := pv1; rw [hx9] at e9; exact Sum.inl.inj e9
    subst hv1
    have hg1 := (po (q + 208) (Or.inr (by omega)) (by omega)).trans hg0
    have hM1 := I.A hn1 (fun b z1 z2 z3 => po b z1 z2)
    obtain ⟨s1, hm1⟩ := hM1.2.2.1
    refine aw_istore (L' := [(6, .int (nI (1))), (0, .ref (b)), (1, .ref (q)), (2, .ref (q + 204)), (3, .ref (q + 207)), (4, .ref (q + 208)), (5, .int (nI (i)))]) dL_law_574 (by decide) rfl ?_
    refine aw_aload_n dL_law_576 rfl ?_
    refine aw_aload_n dL_law_577 rfl ?_
    refine aw_iload dL_law_578 rfl ?_
    refine aw_ic dL_law_580 ic_1 ?_
    refine aw_iaddN dL_law_581 ?_
    refine aw_sld (by omega) hL dL_law_582 ?_
    refine aw_aload_n dL_law_583 rfl ?_
    refine aw_iload dL_law_584 rfl ?_
    refine aw_ic dL_law_586 ic_2 ?_
    refine aw_iaddN dL_law_587 ?_
    refine aw_sld (by omega) hL dL_law_588 ?_
    refine aw_aload_n dL_law_589 rfl ?_
    refine aw_iload dL_law_590 rfl ?_
    refine aw_ic dL_law_592 ic_3 ?_
    refine aw_iaddN dL_law_593 ?_
    refine aw_sld (by omega) hL dL_law_594 ?_
    refine aw_callV (As := [.int (xs (i + 1)), .int (xs (i + 2)), .int (xs (i + 3))]) (rest := []) (m_X9_perform G hM1 hσ (by omega) (xs (i + 1)) (xs (i + 2)) (xs (i + 3))) kX9_perform w_960 hm1 rfl rfl rfl rfl (Nat.le_of_ble_eq_true rfl) dL_law_595 ⟨Nat.le_of_ble_eq_true rfl, Nat.le_of_ble_eq_true rfl⟩ ⟨(show ce + 1 + 180 ≤ 641004 by omega), (show sl + 6 + 2140 ≤ 7173092 by omega)⟩ (fun v2 h2 n2 p2 hn2 => ?_) (fun E h9 n9 p9 _ => by obtain ⟨e9, -⟩ := p9; cases e9)
    have hv2 : v2 = some (.int (nI (0))) := by have e9 := p2.1; rw [hx9] at e9; exact Sum.inl.inj e9
    obtain ⟨own2, I2, pf2, pg2⟩ := I.B hn1 pH pf hg1 (k_perform hσ (xs (i + 1)) (xs (i + 2)) (xs (i + 3))) p2
    rw [hx9] at I2
    have I3 : LInv G own2 h2 n2 q (c + 1) _ (nI 1) := I2
    subst hv2
    obtain ⟨s3, hm3⟩ := I3.1.2.2.1
    refine aw_istore (L' := [(7, .int (nI (0))), (6, .int (nI (1))), (0, .ref (b)), (1, .ref (q)), (2, .ref (q + 204)), (3, .ref (q + 207)), (4, .ref (q + 208)), (5, .int (nI (i)))]) dL_law_598 (by decide) rfl ?_
    refine aw_aload_n dL_law_600 rfl ?_
    refine aw_callVR (As := []) (rest := []) (c_X9_thrown G hm3) kX9_thrown w_746 hm3 rfl rfl rfl rfl (Nat.le_of_ble_eq_true rfl) dL_law_601 ⟨Nat.le_of_ble_eq_true rfl, Nat.le_of_ble_eq_true rfl⟩ ⟨(show ce + 1 + 180 + 0 ≤ 641004 by omega), (show sl + 6 + 2140 + 0 ≤ 7173092 by omega)⟩ ?_
    refine aw_iload dL_law_604 rfl ?_
    refine aw_icmp_eqN (tgt := 611) (by omega) (by omega) dL_law_606 (by decide) (fun cz => ?_) (fun cz => absurd cz (by omega))
    refine aw_iload dL_law_611 rfl ?_
    refine aw_if_neN (tgt := 628) (by omega) dL_law_613 (by decide) (fun cy => ?_) (fun cy => absurd cy (by omega))
    refine aw_goto (tgt := 1650) dL_law_628 (by decide) ?_
    refine aw_widen (cells' := ce + 893) (slots' := sl + 10108) (by omega) (by omega) ?_
    refine aw_sub (L' := [(0, .ref (b)), (1, .ref (q)), (2, .ref (q + 204)), (3, .ref (q + 207)), (4, .ref (q + 208)), (5, .int (nI (i)))]) [2, 3, 4, 5, 6, 7] rfl ?_
    exact K _ _ _ _ _ I3
  · skip
    refine aw_aload_n dL_law_551 rfl ?_
    refine aw_aload_n dL_law_552 rfl ?_
    refine aw_iload dL_law_553 rfl ?_
    refine aw_ic dL_law_555 ic_1 ?_
    refine aw_iaddN dL_law_556 ?_
    refine aw_sld (by omega) hL dL_law_557 ?_
    refine aw_aload_n dL_law_558 rfl ?_
    refine aw_iload dL_law_559 rfl ?_
    refine aw_ic dL_law_561 ic_2 ?_
    refine aw_iaddN dL_law_562 ?_
    refine aw_sld (by omega) hL dL_law_563 ?_
    refine aw_aload_n dL_law_564 rfl ?_
    refine aw_iload dL_law_565 rfl ?_
    refine aw_ic dL_law_567 ic_3 ?_
    refine aw_iaddN dL_law_568 ?_
    refine aw_sld (by omega) hL dL_law_569 ?_
    refine aw_aload_n dL_law_570 rfl ?_
    refine aw_callH (As := [.ref (q), .int (xs (i + 1)), .int (xs (i + 2)), .int (xs (i + 3)), .ref (q + 207)]) (rest := []) (l_perform G hH hσ (by omega) (Or.inr (by omega)) hf0 (xs (i + 1)) (xs (i + 2)) (xs (i + 3))) kL_perform w_618 rfl rfl (Nat.le_of_ble_eq_true rfl) dL_law_571 ⟨Nat.le_of_ble_eq_true rfl, Nat.le_of_ble_eq_true rfl⟩ ⟨(show ce + 1 ≤ 641004 by omega), (show sl + 6 ≤ 7173092 by omega)⟩ (fun v1 h1 n1 p1 hn1 => ?_) (fun E h9 n9 p9 _ => by obtain ⟨e9, -⟩ := p9; cases e9)
    obtain ⟨pv1, -, pH, po, f1, pf, pval⟩ := p1
    have hv1 : v1 = some (.int (nI 2)) := by have e9 := pv1; rw [hx9] at e9; exact Sum.inl.inj e9
    subst hv1
    have hg1 := (po (q + 208) (Or.inr (by omega)) (by omega)).trans hg0
    have hM1 := I.A hn1 (fun b z1 z2 z3 => po b z1 z2)
    obtain ⟨s1, hm1⟩ := hM1.2.2.1
    refine aw_istore (L' := [(6, .int (nI (2))), (0, .ref (b)), (1, .ref (q)), (2, .ref (q + 204)), (3, .ref (q + 207)), (4, .ref (q + 208)), (5, .int (nI (i)))]) dL_law_574 (by decide) rfl ?_
    refine aw_aload_n dL_law_576 rfl ?_
    refine aw_aload_n dL_law_577 rfl ?_
    refine aw_iload dL_law_578 rfl ?_
    refine aw_ic dL_law_580 ic_1 ?_
    refine aw_iaddN dL_law_581 ?_
    refine aw_sld (by omega) hL dL_law_582 ?_
    refine aw_aload_n dL_law_583 rfl ?_
    refine aw_iload dL_law_584 rfl ?_
    refine aw_ic dL_law_586 ic_2 ?_
    refine aw_iaddN dL_law_587 ?_
    refine aw_sld (by omega) hL dL_law_588 ?_
    refine aw_aload_n dL_law_589 rfl ?_
    refine aw_iload dL_law_590 rfl ?_
    refine aw_ic dL_law_592 ic_3 ?_
    refine aw_iaddN dL_law_593 ?_
    refine aw_sld (by omega) hL dL_law_594 ?_
    refine aw_callV (As := [.int (xs (i + 1)), .int (xs (i + 2)), .int (xs (i + 3))]) (rest := []) (m_X9_perform G hM1 hσ (by omega) (xs (i + 1)) (xs (i + 2)) (xs (i + 3))) kX9_perform w_960 hm1 rfl rfl rfl rfl (Nat.le_of_ble_eq_true rfl) dL_law_595 ⟨Nat.le_of_ble_eq_true rfl, Nat.le_of_ble_eq_true rfl⟩ ⟨(show ce + 1 + 180 ≤ 641004 by omega), (show sl + 6 + 2140 ≤ 7173092 by omega)⟩ (fun v2 h2 n2 p2 hn2 => ?_) (fun E h9 n9 p9 _ => by obtain ⟨e9, -⟩ := p9; cases e9)
    have hv2 : v2 = some (.int (nI (0))) := by have e9 := p2.1; rw [hx9] at e9; exact Sum.inl.inj e9
    obtain ⟨own2, I2, pf2, pg2⟩ := I.B hn1 pH pf hg1 (k_perform hσ (xs (i + 1)) (xs (i + 2)) (xs (i + 3))) p2
    rw [hx9] at I2
    have I3 : LInv G own2 h2 n2 q (c + 1) _ (nI 2) := I2
    subst hv2
    obtain ⟨s3, hm3⟩ := I3.1.2.2.1
    refine aw_istore (L' := [(7, .int (nI (0))), (6, .int (nI (2))), (0, .ref (b)), (1, .ref (q)), (2, .ref (q + 204)), (3, .ref (q + 207)), (4, .ref (q + 208)), (5, .int (nI (i)))]) dL_law_598 (by decide) rfl ?_
    refine aw_aload_n dL_law_600 rfl ?_
    refine aw_callVR (As := []) (rest := []) (c_X9_thrown G hm3) kX9_thrown w_746 hm3 rfl rfl rfl rfl (Nat.le_of_ble_eq_true rfl) dL_law_601 ⟨Nat.le_of_ble_eq_true rfl, Nat.le_of_ble_eq_true rfl⟩ ⟨(show ce + 1 + 180 + 0 ≤ 641004 by omega), (show sl + 6 + 2140 + 0 ≤ 7173092 by omega)⟩ ?_
    refine aw_iload dL_law_604 rfl ?_
    refine aw_icmp_eqN (tgt := 611) (by omega) (by omega) dL_law_606 (by decide) (fun cz => ?_) (fun cz => absurd cz (by omega))
    refine aw_iload dL_law_611 rfl ?_
    refine aw_if_neN (tgt := 628) (by omega) dL_law_613 (by decide) (fun cy => ?_) (fun cy => absurd cy (by omega))
    refine aw_goto (tgt := 1650) dL_law_628 (by decide) ?_
    refine aw_widen (cells' := ce + 893) (slots' := sl + 10108) (by omega) (by omega) ?_
    refine aw_sub (L' := [(0, .ref (b)), (1, .ref (q)), (2, .ref (q + 204)), (3, .ref (q + 207)), (4, .ref (q + 208)), (5, .int (nI (i)))]) [2, 3, 4, 5, 6, 7] rfl ?_
    exact K _ _ _ _ _ I3
  · skip
    refine aw_aload_n dL_law_551 rfl ?_
    refine aw_aload_n dL_law_552 rfl ?_
    refine aw_iload dL_law_553 rfl ?_
    refine aw_ic dL_law_555 ic_1 ?_
    refine aw_iaddN dL_law_556 ?_
    refine aw_sld (by omega) hL dL_law_557 ?_
    refine aw_aload_n dL_law_558 rfl ?_
    refine aw_iload dL_law_559 rfl ?_
    refine aw_ic dL_law_561 ic_2 ?_
    refine aw_iaddN dL_law_562 ?_
    refine aw_sld (by omega) hL dL_law_563 ?_
    refine aw_aload_n dL_law_564 rfl ?_
    refine aw_iload dL_law_565 rfl ?_
    refine aw_ic dL_law_567 ic_3 ?_
    refine aw_iaddN dL_law_568 ?_
    refine aw_sld (by omega) hL dL_law_569 ?_
    refine aw_aload_n dL_law_570 rfl ?_
    refine aw_callH (As := [.ref (q), .int (xs (i + 1)), .int (xs (i + 2)), .int (xs (i + 3)), .ref (q + 207)]) (rest := []) (l_perform G hH hσ (by omega) (Or.inr (by omega)) hf0 (xs (i + 1)) (xs (i + 2)) (xs (i + 3))) kL_perform w_618 rfl rfl (Nat.le_of_ble_eq_true rfl) dL_law_571 ⟨Nat.le_of_ble_eq_true rfl, Nat.le_of_ble_eq_true rfl⟩ ⟨(show ce + 1 ≤ 641004 by omega), (show sl + 6 ≤ 7173092 by omega)⟩ (fun v1 h1 n1 p1 hn1 => ?_) (fun E h9 n9 p9 _ => by obtain ⟨e9, -⟩ := p9; cases e9)
    obtain ⟨pv1, -, pH, po, f1, pf, pval⟩ := p1
    have hv1 : v1 = some (.int (nI 3)) := by have e9 := pv1; rw [hx9] at e9; exact Sum.inl.inj e9
    subst hv1
    have hg1 := (po (q + 208) (Or.inr (by omega)) (by omega)).trans hg0
    have hM1 := I.A hn1 (fun b z1 z2 z3 => po b z1 z2)
    obtain ⟨s1, hm1⟩ := hM1.2.2.1
    refine aw_istore (L' := [(6, .int (nI (3))), (0, .ref (b)), (1, .ref (q)), (2, .ref (q + 204)), (3, .ref (q + 207)), (4, .ref (q + 208)), (5, .int (nI (i)))]) dL_law_574 (by decide) rfl ?_
    refine aw_aload_n dL_law_576 rfl ?_
    refine aw_aload_n dL_law_577 rfl ?_
    refine aw_iload dL_law_578 rfl ?_
    refine aw_ic dL_law_580 ic_1 ?_
    refine aw_iaddN dL_law_581 ?_
    refine aw_sld (by omega) hL dL_law_582 ?_
    refine aw_aload_n dL_law_583 rfl ?_
    refine aw_iload dL_law_584 rfl ?_
    refine aw_ic dL_law_586 ic_2 ?_
    refine aw_iaddN dL_law_587 ?_
    refine aw_sld (by omega) hL dL_law_588 ?_
    refine aw_aload_n dL_law_589 rfl ?_
    refine aw_iload dL_law_590 rfl ?_
    refine aw_ic dL_law_592 ic_3 ?_
    refine aw_iaddN dL_law_593 ?_
    refine aw_sld (by omega) hL dL_law_594 ?_
    refine aw_callV (As := [.int (xs (i + 1)), .int (xs (i + 2)), .int (xs (i + 3))]) (rest := []) (m_X9_perform G hM1 hσ (by omega) (xs (i + 1)) (xs (i + 2)) (xs (i + 3))) kX9_perform w_960 hm1 rfl rfl rfl rfl (Nat.le_of_ble_eq_true rfl) dL_law_595 ⟨Nat.le_of_ble_eq_true rfl, Nat.le_of_ble_eq_true rfl⟩ ⟨(show ce + 1 + 180 ≤ 641004 by omega), (show sl + 6 + 2140 ≤ 7173092 by omega)⟩ (fun v2 h2 n2 p2 hn2 => ?_) (fun E h9 n9 p9 _ => by obtain ⟨e9, -⟩ := p9; cases e9)
    have hv2 : v2 = some (.int (nI (0))) := by have e9 := p2.1; rw [hx9] at e9; exact Sum.inl.inj e9
    obtain ⟨own2, I2, pf2, pg2⟩ := I.B hn1 pH pf hg1 (k_perform hσ (xs (i + 1)) (xs (i + 2)) (xs (i + 3))) p2
    rw [hx9] at I2
    have I3 : LInv G own2 h2 n2 q (c + 1) _ (nI 3) := I2
    subst hv2
    obtain ⟨s3, hm3⟩ := I3.1.2.2.1
    refine aw_istore (L' := [(7, .int (nI (0))), (6, .int (nI (3))), (0, .ref (b)), (1, .ref (q)), (2, .ref (q + 204)), (3, .ref (q + 207)), (4, .ref (q + 208)), (5, .int (nI (i)))]) dL_law_598 (by decide) rfl ?_
    refine aw_aload_n dL_law_600 rfl ?_
    refine aw_callVR (As := []) (rest := []) (c_X9_thrown G hm3) kX9_thrown w_746 hm3 rfl rfl rfl rfl (Nat.le_of_ble_eq_true rfl) dL_law_601 ⟨Nat.le_of_ble_eq_true rfl, Nat.le_of_ble_eq_true rfl⟩ ⟨(show ce + 1 + 180 + 0 ≤ 641004 by omega), (show sl + 6 + 2140 + 0 ≤ 7173092 by omega)⟩ ?_
    refine aw_iload dL_law_604 rfl ?_
    refine aw_icmp_eqN (tgt := 611) (by omega) (by omega) dL_law_606 (by decide) (fun cz => ?_) (fun cz => absurd cz (by omega))
    refine aw_iload dL_law_611 rfl ?_
    refine aw_if_neN (tgt := 628) (by omega) dL_law_613 (by decide) (fun cy => ?_) (fun cy => absurd cy (by omega))
    refine aw_goto (tgt := 1650) dL_law_628 (by decide) ?_
    refine aw_widen (cells' := ce + 893) (slots' := sl + 10108) (by omega) (by omega) ?_
    refine aw_sub (L' := [(0, .ref (b)), (1, .ref (q)), (2, .ref (q + 204)), (3, .ref (q + 207)), (4, .ref (q + 208)), (5, .int (nI (i)))]) [2, 3, 4, 5, 6, 7] rfl ?_
    exact K _ _ _ _ _ I3
set_option maxHeartbeats 4000000 in
set_option maxRecDepth 20000 in
theorem law_card (G : aG) {b L q i c nx : Nat} {xs : Nat → Int32} {own : Nat → Nat} {h : aH} {σ : aSg} {th : Int32} {ce sl : Nat} (I : LInv G own h nx q c σ th) (hc9 : c ≤ 511) (hi : i + 5 ≤ L) (hL : L ≤ 2560) (hG : G.2.2.2 < q) (hce : ce + 893 ≤ 641004) (hsl : sl + 10108 ≤ 7173092) (K : ∀ (own1 : Nat → Nat) (h1 : aH) (nx1 : Nat) (σ1 : aSg) (th1 : Int32), LInv G own1 h1 nx1 q (c + 1) σ1 th1 → aw G mL_law [] room_1 (lawQ G b L xs) (ce + 893) (sl + 10108) h1 nx1 1650 [(0, .ref (b)), (1, .ref (q)), (2, .ref (q + 204)), (3, .ref (q + 207)), (4, .ref (q + 208)), (5, .int (nI (i)))] []) : aw G mL_law [] room_1 (lawQ G b L xs) ce sl h nx 631 [(0, .ref (b)), (1, .ref (q)), (2, .ref (q + 204)), (3, .ref (q + 207)), (4, .ref (q + 208)), (5, .int (nI (i)))] [] := by
  have I0 := I
  obtain ⟨hM, hH, hσ, hO1, ⟨hO2, hO3⟩, ⟨f0, hf0⟩, ⟨g0, hg0⟩, hnx⟩ := I0
  rcases o_card σ (xs (i + 1)) (xs (i + 2)) with ⟨x9, hx9⟩ | hx9
  · skip
    refine aw_aload_n dL_law_631 rfl ?_
    refine aw_aload_n dL_law_632 rfl ?_
    refine aw_iload dL_law_633 rfl ?_
    refine aw_ic dL_law_635 ic_1 ?_
    refine aw_iaddN dL_law_636 ?_
    refine aw_sld (by omega) hL dL_law_637 ?_
    refine aw_aload_n dL_law_638 rfl ?_
    refine aw_iload dL_law_639 rfl ?_
    refine aw_ic dL_law_641 ic_2 ?_
    refine aw_iaddN dL_law_642 ?_
    refine aw_sld (by omega) hL dL_law_643 ?_
    refine aw_aload_n dL_law_644 rfl ?_
    refine aw_callH (As := [.ref (q), .int (xs (i + 1)), .int (xs (i + 2)), .ref (q + 207)]) (rest := []) (l_card G hH hσ (by omega) (Or.inr (by omega)) hf0 (xs (i + 1)) (xs (i + 2))) kL_card w_626 rfl rfl (Nat.le_of_ble_eq_true rfl) dL_law_645 ⟨Nat.le_of_ble_eq_true rfl, Nat.le_of_ble_eq_true rfl⟩ ⟨(show ce + 1 ≤ 641004 by omega), (show sl + 6 ≤ 7173092 by omega)⟩ (fun v1 h1 n1 p1 hn1 => ?_) (fun E h9 n9 p9 _ => by obtain ⟨e9, -⟩ := p9; cases e9)
    obtain ⟨pv1, -, pH, po, f1, pf, pval⟩ := p1
    have hv1 : v1 = some (.int (nI 0)) := by have e9 := pv1; rw [hx9] at e9; exact Sum.inl.inj e9
    subst hv1
    have hg1 := (po (q + 208) (Or.inr (by omega)) (by omega)).trans hg0
    have hM1 := I.A hn1 (fun b z1 z2 z3 => po b z1 z2)
    obtain ⟨s1, hm1⟩ := hM1.2.2.1
    refine aw_istore (L' := [(6, .int (nI (0))), (0, .ref (b)), (1, .ref (q)), (2, .ref (q + 204)), (3, .ref (q + 207)), (4, .ref (q + 208)), (5, .int (nI (i)))]) dL_law_648 (by decide) rfl ?_
    refine aw_aload_n dL_law_650 rfl ?_
    refine aw_aload_n dL_law_651 rfl ?_
    refine aw_iload dL_law_652 rfl ?_
    refine aw_ic dL_law_654 ic_1 ?_
    refine aw_iaddN dL_law_655 ?_
    refine aw_sld (by omega) hL dL_law_656 ?_
    refine aw_aload_n dL_law_657 rfl ?_
    refine aw_iload dL_law_658 rfl ?_
    refine aw_ic dL_law_660 ic_2 ?_
    refine aw_iaddN dL_law_661 ?_
    refine aw_sld (by omega) hL dL_law_662 ?_
    refine aw_callV (As := [.int (xs (i + 1)), .int (xs (i + 2))]) (rest := []) (m_X9_card G hM1 hσ (by omega) (xs (i + 1)) (xs (i + 2))) kX9_card w_1016 hm1 rfl rfl rfl rfl (Nat.le_of_ble_eq_true rfl) dL_law_663 ⟨Nat.le_of_ble_eq_true rfl, Nat.le_of_ble_eq_true rfl⟩ ⟨(show ce + 1 + 0 ≤ 641004 by omega), (show sl + 6 + 0 ≤ 7173092 by omega)⟩ (fun v2 h2 n2 p2 hn2 => ?_) (fun E h9 n9 p9 _ => by obtain ⟨e9, -⟩ := p9; cases e9)
    have hv2 : v2 = some (.int (x9)) := by have e9 := p2.1; rw [hx9] at e9; exact Sum.inl.inj e9
    obtain ⟨own2, I2, pf2, pg2⟩ := I.B hn1 pH pf hg1 (k_card hσ (xs (i + 1)) (xs (i + 2))) p2
    rw [hx9] at I2
    have I3 : LInv G own2 h2 n2 q (c + 1) _ (nI 0) := I2
    subst hv2
    obtain ⟨s3, hm3⟩ := I3.1.2.2.1
    refine aw_istore (L' := [(7, .int (x9)), (6, .int (nI (0))), (0, .ref (b)), (1, .ref (q)), (2, .ref (q + 204)), (3, .ref (q + 207)), (4, .ref (q + 208)), (5, .int (nI (i)))]) dL_law_666 (by decide) rfl ?_
    refine aw_aload_n dL_law_668 rfl ?_
    refine aw_callVR (As := []) (rest := []) (c_X9_thrown G hm3) kX9_thrown w_746 hm3 rfl rfl rfl rfl (Nat.le_of_ble_eq_true rfl) dL_law_669 ⟨Nat.le_of_ble_eq_true rfl, Nat.le_of_ble_eq_true rfl⟩ ⟨(show ce + 1 + 0 + 0 ≤ 641004 by omega), (show sl + 6 + 0 + 0 ≤ 7173092 by omega)⟩ ?_
    refine aw_iload dL_law_672 rfl ?_
    refine aw_icmp_eqN (tgt := 679) (by omega) (by omega) dL_law_674 (by decide) (fun cz => ?_) (fun cz => absurd cz (by omega))
    refine aw_iload dL_law_679 rfl ?_
    refine aw_if_neN (tgt := 696) (by omega) dL_law_681 (by decide) (fun cy => absurd cy (by omega)) (fun cy => ?_)
    refine aw_aload_n dL_law_684 rfl ?_
    refine aw_ic dL_law_685 ic_0 ?_
    refine aw_laload pf2 (by omega) (by omega) dL_law_686 ?_
    refine aw_iload dL_law_687 rfl ?_
    refine aw_i2l dL_law_689 ?_
    refine aw_lcmp dL_law_690 ?_
    refine aw_top (show (lg_cmp (f1 0) ((x9)).toInt64) = (nI (0)) from (by rw [pval x9 hx9]; exact lg_self _)) ?_
    refine aw_if_eqN (tgt := 696) (by omega) dL_law_691 (by decide) (fun cx => ?_) (fun cx => absurd cx (by omega))
    refine aw_goto (tgt := 1650) dL_law_696 (by decide) ?_
    refine aw_widen (cells' := ce + 893) (slots' := sl + 10108) (by omega) (by omega) ?_
    refine aw_sub (L' := [(0, .ref (b)), (1, .ref (q)), (2, .ref (q + 204)), (3, .ref (q + 207)), (4, .ref (q + 208)), (5, .int (nI (i)))]) [2, 3, 4, 5, 6, 7] rfl ?_
    exact K _ _ _ _ _ I3
  · skip
    refine aw_aload_n dL_law_631 rfl ?_
    refine aw_aload_n dL_law_632 rfl ?_
    refine aw_iload dL_law_633 rfl ?_
    refine aw_ic dL_law_635 ic_1 ?_
    refine aw_iaddN dL_law_636 ?_
    refine aw_sld (by omega) hL dL_law_637 ?_
    refine aw_aload_n dL_law_638 rfl ?_
    refine aw_iload dL_law_639 rfl ?_
    refine aw_ic dL_law_641 ic_2 ?_
    refine aw_iaddN dL_law_642 ?_
    refine aw_sld (by omega) hL dL_law_643 ?_
    refine aw_aload_n dL_law_644 rfl ?_
    refine aw_callH (As := [.ref (q), .int (xs (i + 1)), .int (xs (i + 2)), .ref (q + 207)]) (rest := []) (l_card G hH hσ (by omega) (Or.inr (by omega)) hf0 (xs (i + 1)) (xs (i + 2))) kL_card w_626 rfl rfl (Nat.le_of_ble_eq_true rfl) dL_law_645 ⟨Nat.le_of_ble_eq_true rfl, Nat.le_of_ble_eq_true rfl⟩ ⟨(show ce + 1 ≤ 641004 by omega), (show sl + 6 ≤ 7173092 by omega)⟩ (fun v1 h1 n1 p1 hn1 => ?_) (fun E h9 n9 p9 _ => by obtain ⟨e9, -⟩ := p9; cases e9)
    obtain ⟨pv1, -, pH, po, f1, pf, pval⟩ := p1
    have hv1 : v1 = some (.int (nI 1)) := by have e9 := pv1; rw [hx9] at e9; exact Sum.inl.inj e9
    subst hv1
    have hg1 := (po (q + 208) (Or.inr (by omega)) (by omega)).trans hg0
    have hM1 := I.A hn1 (fun b z1 z2 z3 => po b z1 z2)
    obtain ⟨s1, hm1⟩ := hM1.2.2.1
    refine aw_istore (L' := [(6, .int (nI (1))), (0, .ref (b)), (1, .ref (q)), (2, .ref (q + 204)), (3, .ref (q + 207)), (4, .ref (q + 208)), (5, .int (nI (i)))]) dL_law_648 (by decide) rfl ?_
    refine aw_aload_n dL_law_650 rfl ?_
    refine aw_aload_n dL_law_651 rfl ?_
    refine aw_iload dL_law_652 rfl ?_
    refine aw_ic dL_law_654 ic_1 ?_
    refine aw_iaddN dL_law_655 ?_
    refine aw_sld (by omega) hL dL_law_656 ?_
    refine aw_aload_n dL_law_657 rfl ?_
    refine aw_iload dL_law_658 rfl ?_
    refine aw_ic dL_law_660 ic_2 ?_
    refine aw_iaddN dL_law_661 ?_
    refine aw_sld (by omega) hL dL_law_662 ?_
    refine aw_callV (As := [.int (xs (i + 1)), .int (xs (i + 2))]) (rest := []) (m_X9_card G hM1 hσ (by omega) (xs (i + 1)) (xs (i + 2))) kX9_card w_1016 hm1 rfl rfl rfl rfl (Nat.le_of_ble_eq_true rfl) dL_law_663 ⟨Nat.le_of_ble_eq_true rfl, Nat.le_of_ble_eq_true rfl⟩ ⟨(show ce + 1 + 0 ≤ 641004 by omega), (show sl + 6 + 0 ≤ 7173092 by omega)⟩ (fun v2 h2 n2 p2 hn2 => ?_) (fun E h9 n9 p9 _ => by obtain ⟨e9, -⟩ := p9; cases e9)
    have hv2 : v2 = some (.int (nI (0))) := by have e9 := p2.1; rw [hx9] at e9; exact Sum.inl.inj e9
    obtain ⟨own2, I2, pf2, pg2⟩ := I.B hn1 pH pf hg1 (k_card hσ (xs (i + 1)) (xs (i + 2))) p2
    rw [hx9] at I2
    have I3 : LInv G own2 h2 n2 q (c + 1) _ (nI 1) := I2
    subst hv2
    obtain ⟨s3, hm3⟩ := I3.1.2.2.1
    refine aw_istore (L' := [(7, .int (nI (0))), (6, .int (nI (1))), (0, .ref (b)), (1, .ref (q)), (2, .ref (q + 204)), (3, .ref (q + 207)), (4, .ref (q + 208)), (5, .int (nI (i)))]) dL_law_666 (by decide) rfl ?_
    refine aw_aload_n dL_law_668 rfl ?_
    refine aw_callVR (As := []) (rest := []) (c_X9_thrown G hm3) kX9_thrown w_746 hm3 rfl rfl rfl rfl (Nat.le_of_ble_eq_true rfl) dL_law_669 ⟨Nat.le_of_ble_eq_true rfl, Nat.le_of_ble_eq_true rfl⟩ ⟨(show ce + 1 + 0 + 0 ≤ 641004 by omega), (show sl + 6 + 0 + 0 ≤ 7173092 by omega)⟩ ?_
    refine aw_iload dL_law_672 rfl ?_
    refine aw_icmp_eqN (tgt := 679) (by omega) (by omega) dL_law_674 (by decide) (fun cz => ?_) (fun cz => absurd cz (by omega))
    refine aw_iload dL_law_679 rfl ?_
    refine aw_if_neN (tgt := 696) (by omega) dL_law_681 (by decide) (fun cy => ?_) (fun cy => absurd cy (by omega))
    refine aw_goto (tgt := 1650) dL_law_696 (by decide) ?_
    refine aw_widen (cells' := ce + 893) (slots' := sl + 10108) (by omega) (by omega) ?_
    refine aw_sub (L' := [(0, .ref (b)), (1, .ref (q)), (2, .ref (q + 204)), (3, .ref (q + 207)), (4, .ref (q + 208)), (5, .int (nI (i)))]) [2, 3, 4, 5, 6, 7] rfl ?_
    exact K _ _ _ _ _ I3
set_option maxHeartbeats 4000000 in
set_option maxRecDepth 20000 in
theorem law_find (G : aG) {b L q i c nx : Nat} {xs : Nat → Int32} {own : Nat → Nat} {h : aH} {σ : aSg} {th : Int32} {ce sl : Nat} (I : LInv G own h nx q c σ th) (hc9 : c ≤ 511) (hi : i + 5 ≤ L) (hL : L ≤ 2560) (hG : G.2.2.2 < q) (hce : ce + 893 ≤ 641004) (hsl : sl + 10108 ≤ 7173092) (K : ∀ (own1 : Nat → Nat) (h1 : aH) (nx1 : Nat) (σ1 : aSg) (th1 : Int32), LInv G own1 h1 nx1 q (c + 1) σ1 th1 → aw G mL_law [] room_1 (lawQ G b L xs) (ce + 893) (sl + 10108) h1 nx1 1650 [(0, .ref (b)), (1, .ref (q)), (2, .ref (q + 204)), (3, .ref (q + 207)), (4, .ref (q + 208)), (5, .int (nI (i)))] []) : aw G mL_law [] room_1 (lawQ G b L xs) ce sl h nx 699 [(0, .ref (b)), (1, .ref (q)), (2, .ref (q + 204)), (3, .ref (q + 207)), (4, .ref (q + 208)), (5, .int (nI (i)))] [] := by
  have I0 := I
  obtain ⟨hM, hH, hσ, hO1, ⟨hO2, hO3⟩, ⟨f0, hf0⟩, ⟨g0, hg0⟩, hnx⟩ := I0
  by_cases hz : xs (i + 3) = 0
  · skip
    rcases o_find σ (xs (i + 1)) (xs (i + 2)) false with ⟨x9, hx9⟩ | hx9
    · skip
      refine aw_aload_n dL_law_699 rfl ?_
      refine aw_aload_n dL_law_700 rfl ?_
      refine aw_iload dL_law_701 rfl ?_
      refine aw_ic dL_law_703 ic_1 ?_
      refine aw_iaddN dL_law_704 ?_
      refine aw_sld (by omega) hL dL_law_705 ?_
      refine aw_aload_n dL_law_706 rfl ?_
      refine aw_iload dL_law_707 rfl ?_
      refine aw_ic dL_law_709 ic_2 ?_
      refine aw_iaddN dL_law_710 ?_
      refine aw_sld (by omega) hL dL_law_711 ?_
      refine aw_aload_n dL_law_712 rfl ?_
      refine aw_iload dL_law_713 rfl ?_
      refine aw_ic dL_law_715 ic_3 ?_
      refine aw_iaddN dL_law_716 ?_
      refine aw_sld (by omega) hL dL_law_717 ?_
      refine aw_if_eq (tgt := 725) dL_law_718 (by decide) (fun cz => ?_) (fun cz => absurd cz (fun z => z hz))
      refine aw_ic dL_law_725 ic_0 ?_
      refine aw_top (show (nI (0)) = (bI (false)) from rfl) ?_
      refine aw_aload_n dL_law_726 rfl ?_
      refine aw_callH (As := [.ref (q), .int (xs (i + 1)), .int (xs (i + 2)), .int (bI (false)), .ref (q + 207)]) (rest := []) (l_find G hH hσ (by omega) (Or.inr (by omega)) hf0 (xs (i + 1)) (xs (i + 2)) false) kL_find w_630 rfl rfl (Nat.le_of_ble_eq_true rfl) dL_law_727 ⟨Nat.le_of_ble_eq_true rfl, Nat.le_of_ble_eq_true rfl⟩ ⟨(show ce + 1 ≤ 641004 by omega), (show sl + 6 ≤ 7173092 by omega)⟩ (fun v1 h1 n1 p1 hn1 => ?_) (fun E h9 n9 p9 _ => by obtain ⟨e9, -⟩ := p9; cases e9)
      obtain ⟨pv1, -, pH, po, f1, pf, pval⟩ := p1
      have hv1 : v1 = some (.int (nI 0)) := by have e9 := pv1; rw [hx9] at e9; exact Sum.inl.inj e9
      subst hv1
      have hg1 := (po (q + 208) (Or.inr (by omega)) (by omega)).trans hg0
      have hM1 := I.A hn1 (fun b z1 z2 z3 => po b z1 z2)
      obtain ⟨s1, hm1⟩ := hM1.2.2.1
      refine aw_istore (L' := [(6, .int (nI (0))), (0, .ref (b)), (1, .ref (q)), (2, .ref (q + 204)), (3, .ref (q + 207)), (4, .ref (q + 208)), (5, .int (nI (i)))]) dL_law_730 (by decide) rfl ?_
      refine aw_aload_n dL_law_732 rfl ?_
      refine aw_aload_n dL_law_733 rfl ?_
      refine aw_iload dL_law_734 rfl ?_
      refine aw_ic dL_law_736 ic_1 ?_
      refine aw_iaddN dL_law_737 ?_
      refine aw_sld (by omega) hL dL_law_738 ?_
      refine aw_aload_n dL_law_739 rfl ?_
      refine aw_iload dL_law_740 rfl ?_
      refine aw_ic dL_law_742 ic_2 ?_
      refine aw_iaddN dL_law_743 ?_
      refine aw_sld (by omega) hL dL_law_744 ?_
      refine aw_aload_n dL_law_745 rfl ?_
      refine aw_iload dL_law_746 rfl ?_
      refine aw_ic dL_law_748 ic_3 ?_
      refine aw_iaddN dL_law_749 ?_
      refine aw_sld (by omega) hL dL_law_750 ?_
      refine aw_if_eq (tgt := 758) dL_law_751 (by decide) (fun cz => ?_) (fun cz => absurd cz (fun z => z hz))
      refine aw_ic dL_law_758 ic_0 ?_
      refine aw_top (show (nI (0)) = (bI (false)) from rfl) ?_
      refine aw_callV (As := [.int (xs (i + 1)), .int (xs (i + 2)), .int (bI (false))]) (rest := []) (m_X9_find G hM1 hσ (by omega) (xs (i + 1)) (xs (i + 2)) false) kX9_find w_1020 hm1 rfl rfl rfl rfl (Nat.le_of_ble_eq_true rfl) dL_law_759 ⟨Nat.le_of_ble_eq_true rfl, Nat.le_of_ble_eq_true rfl⟩ ⟨(show ce + 1 + 0 ≤ 641004 by omega), (show sl + 6 + 0 ≤ 7173092 by omega)⟩ (fun v2 h2 n2 p2 hn2 => ?_) (fun E h9 n9 p9 _ => by obtain ⟨e9, -⟩ := p9; cases e9)
      have hv2 : v2 = some (.int (x9)) := by have e9 := p2.1; rw [hx9] at e9; exact Sum.inl.inj e9
      obtain ⟨own2, I2, pf2, pg2⟩ := I.B hn1 pH pf hg1 (k_find hσ (xs (i + 1)) (xs (i + 2)) false) p2
      rw [hx9] at I2
      have I3 : LInv G own2 h2 n2 q (c + 1) _ (nI 0) := I2
      subst hv2
      obtain ⟨s3, hm3⟩ := I3.1.2.2.1
      refine aw_istore (L' := [(7, .int (x9)), (6, .int (nI (0))), (0, .ref (b)), (1, .ref (q)), (2, .ref (q + 204)), (3, .ref (q + 207)), (4, .ref (q + 208)), (5, .int (nI (i)))]) dL_law_762 (by decide) rfl ?_
      refine aw_aload_n dL_law_764 rfl ?_
      refine aw_callVR (As := []) (rest := []) (c_X9_thrown G hm3) kX9_thrown w_746 hm3 rfl rfl rfl rfl (Nat.le_of_ble_eq_true rfl) dL_law_765 ⟨Nat.le_of_ble_eq_true rfl, Nat.le_of_ble_eq_true rfl⟩ ⟨(show ce + 1 + 0 + 0 ≤ 641004 by omega), (show sl + 6 + 0 + 0 ≤ 7173092 by omega)⟩ ?_
      refine aw_iload dL_law_768 rfl ?_
      refine aw_icmp_eqN (tgt := 775) (by omega) (by omega) dL_law_770 (by decide) (fun cz => ?_) (fun cz => absurd cz (by omega))
      refine aw_iload dL_law_775 rfl ?_
      refine aw_if_neN (tgt := 792) (by omega) dL_law_777 (by decide) (fun cy => absurd cy (by omega)) (fun cy => ?_)
      refine aw_aload_n dL_law_780 rfl ?_
      refine aw_ic dL_law_781 ic_0 ?_
      refine aw_laload pf2 (by omega) (by omega) dL_law_782 ?_
      refine aw_iload dL_law_783 rfl ?_
      refine aw_i2l dL_law_785 ?_
      refine aw_lcmp dL_law_786 ?_
      refine aw_top (show (lg_cmp (f1 0) ((x9)).toInt64) = (nI (0)) from (by rw [pval x9 hx9]; exact lg_self _)) ?_
      refine aw_if_eqN (tgt := 792) (by omega) dL_law_787 (by decide) (fun cx => ?_) (fun cx => absurd cx (by omega))
      refine aw_goto (tgt := 1650) dL_law_792 (by decide) ?_
      refine aw_widen (cells' := ce + 893) (slots' := sl + 10108) (by omega) (by omega) ?_
      refine aw_sub (L' := [(0, .ref (b)), (1, .ref (q)), (2, .ref (q + 204)), (3, .ref (q + 207)), (4, .ref (q + 208)), (5, .int (nI (i)))]) [2, 3, 4, 5, 6, 7] rfl ?_
      exact K _ _ _ _ _ I3
    · skip
      refine aw_aload_n dL_law_699 rfl ?_
      refine aw_aload_n dL_law_700 rfl ?_
      refine aw_iload dL_law_701 rfl ?_
      refine aw_ic dL_law_703 ic_1 ?_
      refine aw_iaddN dL_law_704 ?_
      refine aw_sld (by omega) hL dL_law_705 ?_
      refine aw_aload_n dL_law_706 rfl ?_
      refine aw_iload dL_law_707 rfl ?_
      refine aw_ic dL_law_709 ic_2 ?_
      refine aw_iaddN dL_law_710 ?_
      refine aw_sld (by omega) hL dL_law_711 ?_
      refine aw_aload_n dL_law_712 rfl ?_
      refine aw_iload dL_law_713 rfl ?_
      refine aw_ic dL_law_715 ic_3 ?_
      refine aw_iaddN dL_law_716 ?_
      refine aw_sld (by omega) hL dL_law_717 ?_
      refine aw_if_eq (tgt := 725) dL_law_718 (by decide) (fun cz => ?_) (fun cz => absurd cz (fun z => z hz))
      refine aw_ic dL_law_725 ic_0 ?_
      refine aw_top (show (nI (0)) = (bI (false)) from rfl) ?_
      refine aw_aload_n dL_law_726 rfl ?_
      refine aw_callH (As := [.ref (q), .int (xs (i + 1)), .int (xs (i + 2)), .int (bI (false)), .ref (q + 207)]) (rest := []) (l_find G hH hσ (by omega) (Or.inr (by omega)) hf0 (xs (i + 1)) (xs (i + 2)) false) kL_find w_630 rfl rfl (Nat.le_of_ble_eq_true rfl) dL_law_727 ⟨Nat.le_of_ble_eq_true rfl, Nat.le_of_ble_eq_true rfl⟩ ⟨(show ce + 1 ≤ 641004 by omega), (show sl + 6 ≤ 7173092 by omega)⟩ (fun v1 h1 n1 p1 hn1 => ?_) (fun E h9 n9 p9 _ => by obtain ⟨e9, -⟩ := p9; cases e9)
      obtain ⟨pv1, -, pH, po, f1, pf, pval⟩ := p1
      have hv1 : v1 = some (.int (nI 1)) := by have e9 := pv1; rw [hx9] at e9; exact Sum.inl.inj e9
      subst hv1
      have hg1 := (po (q + 208) (Or.inr (by omega)) (by omega)).trans hg0
      have hM1 := I.A hn1 (fun b z1 z2 z3 => po b z1 z2)
      obtain ⟨s1, hm1⟩ := hM1.2.2.1
      refine aw_istore (L' := [(6, .int (nI (1))), (0, .ref (b)), (1, .ref (q)), (2, .ref (q + 204)), (3, .ref (q + 207)), (4, .ref (q + 208)), (5, .int (nI (i)))]) dL_law_730 (by decide) rfl ?_
      refine aw_aload_n dL_law_732 rfl ?_
      refine aw_aload_n dL_law_733 rfl ?_
      refine aw_iload dL_law_734 rfl ?_
      refine aw_ic dL_law_736 ic_1 ?_
      refine aw_iaddN dL_law_737 ?_
      refine aw_sld (by omega) hL dL_law_738 ?_
      refine aw_aload_n dL_law_739 rfl ?_
      refine aw_iload dL_law_740 rfl ?_
      refine aw_ic dL_law_742 ic_2 ?_
      refine aw_iaddN dL_law_743 ?_
      refine aw_sld (by omega) hL dL_law_744 ?_
      refine aw_aload_n dL_law_745 rfl ?_
      refine aw_iload dL_law_746 rfl ?_
      refine aw_ic dL_law_748 ic_3 ?_
      refine aw_iaddN dL_law_749 ?_
      refine aw_sld (by omega) hL dL_law_750 ?_
      refine aw_if_eq (tgt := 758) dL_law_751 (by decide) (fun cz => ?_) (fun cz => absurd cz (fun z => z hz))
      refine aw_ic dL_law_758 ic_0 ?_
      refine aw_top (show (nI (0)) = (bI (false)) from rfl) ?_
      refine aw_callV (As := [.int (xs (i + 1)), .int (xs (i + 2)), .int (bI (false))]) (rest := []) (m_X9_find G hM1 hσ (by omega) (xs (i + 1)) (xs (i + 2)) false) kX9_find w_1020 hm1 rfl rfl rfl rfl (Nat.le_of_ble_eq_true rfl) dL_law_759 ⟨Nat.le_of_ble_eq_true rfl, Nat.le_of_ble_eq_true rfl⟩ ⟨(show ce + 1 + 0 ≤ 641004 by omega), (show sl + 6 + 0 ≤ 7173092 by omega)⟩ (fun v2 h2 n2 p2 hn2 => ?_) (fun E h9 n9 p9 _ => by obtain ⟨e9, -⟩ := p9; cases e9)
      have hv2 : v2 = some (.int (nI (0))) := by have e9 := p2.1; rw [hx9] at e9; exact Sum.inl.inj e9
      obtain ⟨own2, I2, pf2, pg2⟩ := I.B hn1 pH pf hg1 (k_find hσ (xs (i + 1)) (xs (i + 2)) false) p2
      rw [hx9] at I2
      have I3 : LInv G own2 h2 n2 q (c + 1) _ (nI 1) := I2
      subst hv2
      obtain ⟨s3, hm3⟩ := I3.1.2.2.1
      refine aw_istore (L' := [(7, .int (nI (0))), (6, .int (nI (1))), (0, .ref (b)), (1, .ref (q)), (2, .ref (q + 204)), (3, .ref (q + 207)), (4, .ref (q + 208)), (5, .int (nI (i)))]) dL_law_762 (by decide) rfl ?_
      refine aw_aload_n dL_law_764 rfl ?_
      refine aw_callVR (As := []) (rest := []) (c_X9_thrown G hm3) kX9_thrown w_746 hm3 rfl rfl rfl rfl (Nat.le_of_ble_eq_true rfl) dL_law_765 ⟨Nat.le_of_ble_eq_true rfl, Nat.le_of_ble_eq_true rfl⟩ ⟨(show ce + 1 + 0 + 0 ≤ 641004 by omega), (show sl + 6 + 0 + 0 ≤ 7173092 by omega)⟩ ?_
      refine aw_iload dL_law_768 rfl ?_
      refine aw_icmp_eqN (tgt := 775) (by omega) (by omega) dL_law_770 (by decide) (fun cz => ?_) (fun cz => absurd cz (by omega))
      refine aw_iload dL_law_775 rfl ?_
      refine aw_if_neN (tgt := 792) (by omega) dL_law_777 (by decide) (fun cy => ?_) (fun cy => absurd cy (by omega))
      refine aw_goto (tgt := 1650) dL_law_792 (by decide) ?_
      refine aw_widen (cells' := ce + 893) (slots' := sl + 10108) (by omega) (by omega) ?_
      refine aw_sub (L' := [(0, .ref (b)), (1, .ref (q)), (2, .ref (q + 204)), (3, .ref (q + 207)), (4, .ref (q + 208)), (5, .int (nI (i)))]) [2, 3, 4, 5, 6, 7] rfl ?_
      exact K _ _ _ _ _ I3
  · skip
    rcases o_find σ (xs (i + 1)) (xs (i + 2)) true with ⟨x9, hx9⟩ | hx9
    · skip
      refine aw_aload_n dL_law_699 rfl ?_
      refine aw_aload_n dL_law_700 rfl ?_
      refine aw_iload dL_law_701 rfl ?_
      refine aw_ic dL_law_703 ic_1 ?_
      refine aw_iaddN dL_law_704 ?_
      refine aw_sld (by omega) hL dL_law_705 ?_
      refine aw_aload_n dL_law_706 rfl ?_
      refine aw_iload dL_law_707 rfl ?_
      refine aw_ic dL_law_709 ic_2 ?_
      refine aw_iaddN dL_law_710 ?_
      refine aw_sld (by omega) hL dL_law_711 ?_
      refine aw_aload_n dL_law_712 rfl ?_
      refine aw_iload dL_law_713 rfl ?_
      refine aw_ic dL_law_715 ic_3 ?_
      refine aw_iaddN dL_law_716 ?_
      refine aw_sld (by omega) hL dL_law_717 ?_
      refine aw_if_eq (tgt := 725) dL_law_718 (by decide) (fun cz => absurd cz (hz)) (fun cz => ?_)
      refine aw_ic dL_law_721 ic_1 ?_
      refine aw_top (show (nI (1)) = (bI (true)) from rfl) ?_
      refine aw_goto (tgt := 726) dL_law_722 (by decide) ?_
      refine aw_aload_n dL_law_726 rfl ?_
      refine aw_callH (As := [.ref (q), .int (xs (i + 1)), .int (xs (i + 2)), .int (bI (true)), .ref (q + 207)]) (rest := []) (l_find G hH hσ (by omega) (Or.inr (by omega)) hf0 (xs (i + 1)) (xs (i + 2)) true) kL_find w_630 rfl rfl (Nat.le_of_ble_eq_true rfl) dL_law_727 ⟨Nat.le_of_ble_eq_true rfl, Nat.le_of_ble_eq_true rfl⟩ ⟨(show ce + 1 ≤ 641004 by omega), (show sl + 6 ≤ 7173092 by omega)⟩ (fun v1 h1 n1 p1 hn1 => ?_) (fun E h9 n9 p9 _ => by obtain ⟨e9, -⟩ := p9; cases e9)
      obtain ⟨pv1, -, pH, po, f1, pf, pval⟩ := p1
      have hv1 : v1 = some (.int (nI 0)) := by have e9 := pv1; rw [hx9] at e9; exact Sum.inl.inj e9
      subst hv1
      have hg1 := (po (q + 208) (Or.inr (by omega)) (by omega)).trans hg0
      have hM1 := I.A hn1 (fun b z1 z2 z3 => po b z1 z2)
      obtain ⟨s1, hm1⟩ := hM1.2.2.1
      refine aw_istore (L' := [(6, .int (nI (0))), (0, .ref (b)), (1, .ref (q)), (2, .ref (q + 204)), (3, .ref (q + 207)), (4, .ref (q + 208)), (5, .int (nI (i)))]) dL_law_730 (by decide) rfl ?_
      refine aw_aload_n dL_law_732 rfl ?_
      refine aw_aload_n dL_law_733 rfl ?_
      refine aw_iload dL_law_734 rfl ?_
      refine aw_ic dL_law_736 ic_1 ?_
      refine aw_iaddN dL_law_737 ?_
      refine aw_sld (by omega) hL dL_law_738 ?_
      refine aw_aload_n dL_law_739 rfl ?_
      refine aw_iload dL_law_740 rfl ?_
      refine aw_ic dL_law_742 ic_2 ?_
      refine aw_iaddN dL_law_743 ?_
      refine aw_sld (by omega) hL dL_law_744 ?_
      refine aw_aload_n dL_law_745 rfl ?_
      refine aw_iload dL_law_746 rfl ?_
      refine aw_ic dL_law_748 ic_3 ?_
      refine aw_iaddN dL_law_749 ?_
      refine aw_sld (by omega) hL dL_law_750 ?_
      refine aw_if_eq (tgt := 758) dL_law_751 (by decide) (fun cz => absurd cz (hz)) (fun cz => ?_)
      refine aw_ic dL_law_754 ic_1 ?_
      refine aw_top (show (nI (1)) = (bI (true)) from rfl) ?_
      refine aw_goto (tgt := 759) dL_law_755 (by decide) ?_
      refine aw_callV (As := [.int (xs (i + 1)), .int (xs (i + 2)), .int (bI (true))]) (rest := []) (m_X9_find G hM1 hσ (by omega) (xs (i + 1)) (xs (i + 2)) true) kX9_find w_1020 hm1 rfl rfl rfl rfl (Nat.le_of_ble_eq_true rfl) dL_law_759 ⟨Nat.le_of_ble_eq_true rfl, Nat.le_of_ble_eq_true rfl⟩ ⟨(show ce + 1 + 0 ≤ 641004 by omega), (show sl + 6 + 0 ≤ 7173092 by omega)⟩ (fun v2 h2 n2 p2 hn2 => ?_) (fun E h9 n9 p9 _ => by obtain ⟨e9, -⟩ := p9; cases e9)
      have hv2 : v2 = some (.int (x9)) := by have e9 := p2.1; rw [hx9] at e9; exact Sum.inl.inj e9
      obtain ⟨own2, I2, pf2, pg2⟩ := I.B hn1 pH pf hg1 (k_find hσ (xs (i + 1)) (xs (i + 2)) true) p2
      rw [hx9] at I2
      have I3 : LInv G own2 h2 n2 q (c + 1) _ (nI 0) := I2
      subst hv2
      obtain ⟨s3, hm3⟩ := I3.1.2.2.1
      refine aw_istore (L' := [(7, .int (x9)), (6, .int (nI (0))), (0, .ref (b)), (1, .ref (q)), (2, .ref (q + 204)), (3, .ref (q + 207)), (4, .ref (q + 208)), (5, .int (nI (i)))]) dL_law_762 (by decide) rfl ?_
      refine aw_aload_n dL_law_764 rfl ?_
      refine aw_callVR (As := []) (rest := []) (c_X9_thrown G hm3) kX9_thrown w_746 hm3 rfl rfl rfl rfl (Nat.le_of_ble_eq_true rfl) dL_law_765 ⟨Nat.le_of_ble_eq_true rfl, Nat.le_of_ble_eq_true rfl⟩ ⟨(show ce + 1 + 0 + 0 ≤ 641004 by omega), (show sl + 6 + 0 + 0 ≤ 7173092 by omega)⟩ ?_
      refine aw_iload dL_law_768 rfl ?_
      refine aw_icmp_eqN (tgt := 775) (by omega) (by omega) dL_law_770 (by decide) (fun cz => ?_) (fun cz => absurd cz (by omega))
      refine aw_iload dL_law_775 rfl ?_
      refine aw_if_neN (tgt := 792) (by omega) dL_law_777 (by decide) (fun cy => absurd cy (by omega)) (fun cy => ?_)
      refine aw_aload_n dL_law_780 rfl ?_
      refine aw_ic dL_law_781 ic_0 ?_
      refine aw_laload pf2 (by omega) (by omega) dL_law_782 ?_
      refine aw_iload dL_law_783 rfl ?_
      refine aw_i2l dL_law_785 ?_
      refine aw_lcmp dL_law_786 ?_
      refine aw_top (show (lg_cmp (f1 0) ((x9)).toInt64) = (nI (0)) from (by rw [pval x9 hx9]; exact lg_self _)) ?_
      refine aw_if_eqN (tgt := 792) (by omega) dL_law_787 (by decide) (fun cx => ?_) (fun cx => absurd cx (by omega))
      refine aw_goto (tgt := 1650) dL_law_792 (by decide) ?_
      refine aw_widen (cells' := ce + 893) (slots' := sl + 10108) (by omega) (by omega) ?_
      refine aw_sub (L' := [(0, .ref (b)), (1, .ref (q)), (2, .ref (q + 204)), (3, .ref (q + 207)), (4, .ref (q + 208)), (5, .int (nI (i)))]) [2, 3, 4, 5, 6, 7] rfl ?_
      exact K _ _ _ _ _ I3
    · skip
      refine aw_aload_n dL_law_699 rfl ?_
      refine aw_aload_n dL_law_700 rfl ?_
      refine aw_iload dL_law_701 rfl ?_
      refine aw_ic dL_law_703 ic_1 ?_
      refine aw_iaddN dL_law_704 ?_
      refine aw_sld (by omega) hL dL_law_705 ?_
      refine aw_aload_n dL_law_706 rfl ?_
      refine aw_iload dL_law_707 rfl ?_
      refine aw_ic dL_law_709 ic_2 ?_
      refine aw_iaddN dL_law_710 ?_
      refine aw_sld (by omega) hL dL_law_711 ?_
      refine aw_aload_n dL_law_712 rfl ?_
      refine aw_iload dL_law_713 rfl ?_
      refine aw_ic dL_law_715 ic_3 ?_
      refine aw_iaddN dL_law_716 ?_
      refine aw_sld (by omega) hL dL_law_717 ?_
      refine aw_if_eq (tgt := 725) dL_law_718 (by decide) (fun cz => absurd cz (hz)) (fun cz => ?_)
      refine aw_ic dL_law_721 ic_1 ?_
      refine aw_top (show (nI (1)) = (bI (true)) from rfl) ?_
      refine aw_goto (tgt := 726) dL_law_722 (by decide) ?_
      refine aw_aload_n dL_law_726 rfl ?_
      refine aw_callH (As := [.ref (q), .int (xs (i + 1)), .int (xs (i + 2)), .int (bI (true)), .ref (q + 207)]) (rest := []) (l_find G hH hσ (by omega) (Or.inr (by omega)) hf0 (xs (i + 1)) (xs (i + 2)) true) kL_find w_630 rfl rfl (Nat.le_of_ble_eq_true rfl) dL_law_727 ⟨Nat.le_of_ble_eq_true rfl, Nat.le_of_ble_eq_true rfl⟩ ⟨(show ce + 1 ≤ 641004 by omega), (show sl + 6 ≤ 7173092 by omega)⟩ (fun v1 h1 n1 p1 hn1 => ?_) (fun E h9 n9 p9 _ => by obtain ⟨e9, -⟩ := p9; cases e9)
      obtain ⟨pv1, -, pH, po, f1, pf, pval⟩ := p1
      have hv1 : v1 = some (.int (nI 1)) := by have e9 := pv1; rw [hx9] at e9; exact Sum.inl.inj e9
      subst hv1
      have hg1 := (po (q + 208) (Or.inr (by omega)) (by omega)).trans hg0
      have hM1 := I.A hn1 (fun b z1 z2 z3 => po b z1 z2)
      obtain ⟨s1, hm1⟩ := hM1.2.2.1
      refine aw_istore (L' := [(6, .int (nI (1))), (0, .ref (b)), (1, .ref (q)), (2, .ref (q + 204)), (3, .ref (q + 207)), (4, .ref (q + 208)), (5, .int (nI (i)))]) dL_law_730 (by decide) rfl ?_
      refine aw_aload_n dL_law_732 rfl ?_
      refine aw_aload_n dL_law_733 rfl ?_
      refine aw_iload dL_law_734 rfl ?_
      refine aw_ic dL_law_736 ic_1 ?_
      refine aw_iaddN dL_law_737 ?_
      refine aw_sld (by omega) hL dL_law_738 ?_
      refine aw_aload_n dL_law_739 rfl ?_
      refine aw_iload dL_law_740 rfl ?_
      refine aw_ic dL_law_742 ic_2 ?_
      refine aw_iaddN dL_law_743 ?_
      refine aw_sld (by omega) hL dL_law_744 ?_
      refine aw_aload_n dL_law_745 rfl ?_
      refine aw_iload dL_law_746 rfl ?_
      refine aw_ic dL_law_748 ic_3 ?_
      refine aw_iaddN dL_law_749 ?_
      refine aw_sld (by omega) hL dL_law_750 ?_
      refine aw_if_eq (tgt := 758) dL_law_751 (by decide) (fun cz => absurd cz (hz)) (fun cz => ?_)
      refine aw_ic dL_law_754 ic_1 ?_
      refine aw_top (show (nI (1)) = (bI (true)) from rfl) ?_
      refine aw_goto (tgt := 759) dL_law_755 (by decide) ?_
      refine aw_callV (As := [.int (xs (i + 1)), .int (xs (i + 2)), .int (bI (true))]) (rest := []) (m_X9_find G hM1 hσ (by omega) (xs (i + 1)) (xs (i + 2)) true) kX9_find w_1020 hm1 rfl rfl rfl rfl (Nat.le_of_ble_eq_true rfl) dL_law_759 ⟨Nat.le_of_ble_eq_true rfl, Nat.le_of_ble_eq_true rfl⟩ ⟨(show ce + 1 + 0 ≤ 641004 by omega), (show sl + 6 + 0 ≤ 7173092 by omega)⟩ (fun v2 h2 n2 p2 hn2 => ?_) (fun E h9 n9 p9 _ => by obtain ⟨e9, -⟩ := p9; cases e9)
      have hv2 : v2 = some (.int (nI (0))) := by have e9 := p2.1; rw [hx9] at e9; exact Sum.inl.inj e9
      obtain ⟨own2, I2, pf2, pg2⟩ := I.B hn1 pH pf hg1 (k_find hσ (xs (i + 1)) (xs (i + 2)) true) p2
      rw [hx9] at I2
      have I3 : LInv G own2 h2 n2 q (c + 1) _ (nI 1) := I2
      subst hv2
      obtain ⟨s3, hm3⟩ := I3.1.2.2.1
      refine aw_istore (L' := [(7, .int (nI (0))), (6, .int (nI (1))), (0, .ref (b)), (1, .ref (q)), (2, .ref (q + 204)), (3, .ref (q + 207)), (4, .ref (q + 208)), (5, .int (nI (i)))]) dL_law_762 (by decide) rfl ?_
      refine aw_aload_n dL_law_764 rfl ?_
      refine aw_callVR (As := []) (rest := []) (c_X9_thrown G hm3) kX9_thrown w_746 hm3 rfl rfl rfl rfl (Nat.le_of_ble_eq_true rfl) dL_law_765 ⟨Nat.le_of_ble_eq_true rfl, Nat.le_of_ble_eq_true rfl⟩ ⟨(show ce + 1 + 0 + 0 ≤ 641004 by omega), (show sl + 6 + 0 + 0 ≤ 7173092 by omega)⟩ ?_
      refine aw_iload dL_law_768 rfl ?_
      refine aw_icmp_eqN (tgt := 775) (by omega) (by omega) dL_law_770 (by decide) (fun cz => ?_) (fun cz => absurd cz (by omega))
      refine aw_iload dL_law_775 rfl ?_
      refine aw_if_neN (tgt := 792) (by omega) dL_law_777 (by decide) (fun cy => ?_) (fun cy => absurd cy (by omega))
      refine aw_goto (tgt := 1650) dL_law_792 (by decide) ?_
      refine aw_widen (cells' := ce + 893) (slots' := sl + 10108) (by omega) (by omega) ?_
      refine aw_sub (L' := [(0, .ref (b)), (1, .ref (q)), (2, .ref (q + 204)), (3, .ref (q + 207)), (4, .ref (q + 208)), (5, .int (nI (i)))]) [2, 3, 4, 5, 6, 7] rfl ?_
      exact K _ _ _ _ _ I3
set_option maxHeartbeats 4000000 in
set_option maxRecDepth 20000 in
theorem law_ofDeck (G : aG) {b L q i c nx : Nat} {xs : Nat → Int32} {own : Nat → Nat} {h : aH} {σ : aSg} {th : Int32} {ce sl : Nat} (I : LInv G own h nx q c σ th) (hc9 : c ≤ 511) (hi : i + 5 ≤ L) (hL : L ≤ 2560) (hG : G.2.2.2 < q) (hce : ce + 893 ≤ 641004) (hsl : sl + 10108 ≤ 7173092) (K : ∀ (own1 : Nat → Nat) (h1 : aH) (nx1 : Nat) (σ1 : aSg) (th1 : Int32), LInv G own1 h1 nx1 q (c + 1) σ1 th1 → aw G mL_law [] room_1 (lawQ G b L xs) (ce + 893) (sl + 10108) h1 nx1 1650 [(0, .ref (b)), (1, .ref (q)), (2, .ref (q + 204)), (3, .ref (q + 207)), (4, .ref (q + 208)), (5, .int (nI (i)))] []) : aw G mL_law [] room_1 (lawQ G b L xs) ce sl h nx 795 [(0, .ref (b)), (1, .ref (q)), (2, .ref (q + 204)), (3, .ref (q + 207)), (4, .ref (q + 208)), (5, .int (nI (i)))] [] := by
  have I0 := I
  obtain ⟨hM, hH, hσ, hO1, ⟨hO2, hO3⟩, ⟨f0, hf0⟩, ⟨g0, hg0⟩, hnx⟩ := I0
  rcases o_ofDeck σ (xs (i + 1)) (xs (i + 2)) with ⟨x9, hx9⟩ | hx9 | hx9
  · skip
    refine aw_aload_n dL_law_795 rfl ?_
    refine aw_aload_n dL_law_796 rfl ?_
    refine aw_iload dL_law_797 rfl ?_
    refine aw_ic dL_law_799 ic_1 ?_
    refine aw_iaddN dL_law_800 ?_
    refine aw_sld (by omega) hL dL_law_801 ?_
    refine aw_aload_n dL_law_802 rfl ?_
    refine aw_iload dL_law_803 rfl ?_
    refine aw_ic dL_law_805 ic_2 ?_
    refine aw_iaddN dL_law_806 ?_
    refine aw_sld (by omega) hL dL_law_807 ?_
    refine aw_aload_n dL_law_808 rfl ?_
    refine aw_callH (As := [.ref (q), .int (xs (i + 1)), .int (xs (i + 2)), .ref (q + 207)]) (rest := []) (l_ofDeck G hH hσ (by omega) (Or.inr (by omega)) hf0 (xs (i + 1)) (xs (i + 2))) kL_ofDeck w_634 rfl rfl (Nat.le_of_ble_eq_true rfl) dL_law_809 ⟨Nat.le_of_ble_eq_true rfl, Nat.le_of_ble_eq_true rfl⟩ ⟨(show ce + 1 ≤ 641004 by omega), (show sl + 6 ≤ 7173092 by omega)⟩ (fun v1 h1 n1 p1 hn1 => ?_) (fun E h9 n9 p9 _ => by obtain ⟨e9, -⟩ := p9; cases e9)
    obtain ⟨pv1, -, pH, po, f1, pf, pval⟩ := p1
    have hv1 : v1 = some (.int (nI 0)) := by have e9 := pv1; rw [hx9] at e9; exact Sum.inl.inj e9
    subst hv1
    have hg1 := (po (q + 208) (Or.inr (by omega)) (by omega)).trans hg0
    have hM1 := I.A hn1 (fun b z1 z2 z3 => po b z1 z2)
    obtain ⟨s1, hm1⟩ := hM1.2.2.1
    refine aw_istore (L' := [(6, .int (nI (0))), (0, .ref (b)), (1, .ref (q)), (2, .ref (q + 204)), (3, .ref (q + 207)), (4, .ref (q + 208)), (5, .int (nI (i)))]) dL_law_812 (by decide) rfl ?_
    refine aw_aload_n dL_law_814 rfl ?_
    refine aw_aload_n dL_law_815 rfl ?_
    refine aw_iload dL_law_816 rfl ?_
    refine aw_ic dL_law_818 ic_1 ?_
    refine aw_iaddN dL_law_819 ?_
    refine aw_sld (by omega) hL dL_law_820 ?_
    refine aw_aload_n dL_law_821 rfl ?_
    refine aw_iload dL_law_822 rfl ?_
    refine aw_ic dL_law_824 ic_2 ?_
    refine aw_iaddN dL_law_825 ?_
    refine aw_sld (by omega) hL dL_law_826 ?_
    refine aw_callV (As := [.int (xs (i + 1)), .int (xs (i + 2))]) (rest := []) (m_X9_ofDeck G hM1 hσ (by omega) (xs (i + 1)) (xs (i + 2))) kX9_ofDeck w_1028 hm1 rfl rfl rfl rfl (Nat.le_of_ble_eq_true rfl) dL_law_827 ⟨Nat.le_of_ble_eq_true rfl, Nat.le_of_ble_eq_true rfl⟩ ⟨(show ce + 1 + 3 ≤ 641004 by omega), (show sl + 6 + 34 ≤ 7173092 by omega)⟩ (fun v2 h2 n2 p2 hn2 => ?_) (fun E h9 n9 p9 _ => by obtain ⟨e9, -⟩ := p9; cases e9)
    have hv2 : v2 = some (.int (x9)) := by have e9 := p2.1; rw [hx9] at e9; exact Sum.inl.inj e9
    obtain ⟨own2, I2, pf2, pg2⟩ := I.B hn1 pH pf hg1 (k_ofDeck hσ (xs (i + 1)) (xs (i + 2))) p2
    rw [hx9] at I2
    have I3 : LInv G own2 h2 n2 q (c + 1) _ (nI 0) := I2
    subst hv2
    obtain ⟨s3, hm3⟩ := I3.1.2.2.1
    refine aw_istore (L' := [(7, .int (x9)), (6, .int (nI (0))), (0, .ref (b)), (1, .ref (q)), (2, .ref (q + 204)), (3, .ref (q + 207)), (4, .ref (q + 208)), (5, .int (nI (i)))]) dL_law_830 (by decide) rfl ?_
    refine aw_aload_n dL_law_832 rfl ?_
    refine aw_callVR (As := []) (rest := []) (c_X9_thrown G hm3) kX9_thrown w_746 hm3 rfl rfl rfl rfl (Nat.le_of_ble_eq_true rfl) dL_law_833 ⟨Nat.le_of_ble_eq_true rfl, Nat.le_of_ble_eq_true rfl⟩ ⟨(show ce + 1 + 3 + 0 ≤ 641004 by omega), (show sl + 6 + 34 + 0 ≤ 7173092 by omega)⟩ ?_
    refine aw_iload dL_law_836 rfl ?_
    refine aw_icmp_eqN (tgt := 843) (by omega) (by omega) dL_law_838 (by decide) (fun cz => ?_) (fun cz => absurd cz (by omega))
    refine aw_iload dL_law_843 rfl ?_
    refine aw_if_neN (tgt := 860) (by omega) dL_law_845 (by decide) (fun cy => absurd cy (by omega)) (fun cy => ?_)
    refine aw_aload_n dL_law_848 rfl ?_
    refine aw_ic dL_law_849 ic_0 ?_
    refine aw_laload pf2 (by omega) (by omega) dL_law_850 ?_
    refine aw_iload dL_law_851 rfl ?_
    refine aw_i2l dL_law_853 ?_
    refine aw_lcmp dL_law_854 ?_
    refine aw_top (show (lg_cmp (f1 0) ((x9)).toInt64) = (nI (0)) from (by rw [pval x9 hx9]; exact lg_self _)) ?_
    refine aw_if_eqN (tgt := 860) (by omega) dL_law_855 (by decide) (fun cx => ?_) (fun cx => absurd cx (by omega))
    refine aw_goto (tgt := 1650) dL_law_860 (by decide) ?_
    refine aw_widen (cells' := ce + 893) (slots' := sl + 10108) (by omega) (by omega) ?_
    refine aw_sub (L' := [(0, .ref (b)), (1, .ref (q)), (2, .ref (q + 204)), (3, .ref (q + 207)), (4, .ref (q + 208)), (5, .int (nI (i)))]) [2, 3, 4, 5, 6, 7] rfl ?_
    exact K _ _ _ _ _ I3
  · skip
    refine aw_aload_n dL_law_795 rfl ?_
    refine aw_aload_n dL_law_796 rfl ?_
    refine aw_iload dL_law_797 rfl ?_
    refine aw_ic dL_law_799 ic_1 ?_
    refine aw_iaddN dL_law_800 ?_
    refine aw_sld (by omega) hL dL_law_801 ?_
    refine aw_aload_n dL_law_802 rfl ?_
    refine aw_iload dL_law_803 rfl ?_
    refine aw_ic dL_law_805 ic_2 ?_
    refine aw_iaddN dL_law_806 ?_
    refine aw_sld (by omega) hL dL_law_807 ?_
    refine aw_aload_n dL_law_808 rfl ?_
    refine aw_callH (As := [.ref (q), .int (xs (i + 1)), .int (xs (i + 2)), .ref (q + 207)]) (rest := []) (l_ofDeck G hH hσ (by omega) (Or.inr (by omega)) hf0 (xs (i + 1)) (xs (i + 2))) kL_ofDeck w_634 rfl rfl (Nat.le_of_ble_eq_true rfl) dL_law_809 ⟨Nat.le_of_ble_eq_true rfl, Nat.le_of_ble_eq_true rfl⟩ ⟨(show ce + 1 ≤ 641004 by omega), (show sl + 6 ≤ 7173092 by omega)⟩ (fun v1 h1 n1 p1 hn1 => ?_) (fun E h9 n9 p9 _ => by obtain ⟨e9, -⟩ := p9; cases e9)
    obtain ⟨pv1, -, pH, po, f1, pf, pval⟩ := p1
    have hv1 : v1 = some (.int (nI 1)) := by have e9 := pv1; rw [hx9] at e9; exact Sum.inl.inj e9
    subst hv1
    have hg1 := (po (q + 208) (Or.inr (by omega)) (by omega)).trans hg0
    have hM1 := I.A hn1 (fun b z1 z2 z3 => po b z1 z2)
    obtain ⟨s1, hm1⟩ := hM1.2.2.1
    refine aw_istore (L' := [(6, .int (nI (1))), (0, .ref (b)), (1, .ref (q)), (2, .ref (q + 204)), (3, .ref (q + 207)), (4, .ref (q + 208)), (5, .int (nI (i)))]) dL_law_812 (by decide) rfl ?_
    refine aw_aload_n dL_law_814 rfl ?_
    refine aw_aload_n dL_law_815 rfl ?_
    refine aw_iload dL_law_816 rfl ?_
    refine aw_ic dL_law_818 ic_1 ?_
    refine aw_iaddN dL_law_819 ?_
    refine aw_sld (by omega) hL dL_law_820 ?_
    refine aw_aload_n dL_law_821 rfl ?_
    refine aw_iload dL_law_822 rfl ?_
    refine aw_ic dL_law_824 ic_2 ?_
    refine aw_iaddN dL_law_825 ?_
    refine aw_sld (by omega) hL dL_law_826 ?_
    refine aw_callV (As := [.int (xs (i + 1)), .int (xs (i + 2))]) (rest := []) (m_X9_ofDeck G hM1 hσ (by omega) (xs (i + 1)) (xs (i + 2))) kX9_ofDeck w_1028 hm1 rfl rfl rfl rfl (Nat.le_of_ble_eq_true rfl) dL_law_827 ⟨Nat.le_of_ble_eq_true rfl, Nat.le_of_ble_eq_true rfl⟩ ⟨(show ce + 1 + 3 ≤ 641004 by omega), (show sl + 6 + 34 ≤ 7173092 by omega)⟩ (fun v2 h2 n2 p2 hn2 => ?_) (fun E h9 n9 p9 _ => by obtain ⟨e9, -⟩ := p9; cases e9)
    have hv2 : v2 = some (.int (nI (0))) := by have e9 := p2.1; rw [hx9] at e9; exact Sum.inl.inj e9
    obtain ⟨own2, I2, pf2, pg2⟩ := I.B hn1 pH pf hg1 (k_ofDeck hσ (xs (i + 1)) (xs (i + 2))) p2
    rw [hx9] at I2
    have I3 : LInv G own2 h2 n2 q (c + 1) _ (nI 1) := I2
    subst hv2
    obtain ⟨s3, hm3⟩ := I3.1.2.2.1
    refine aw_istore (L' := [(7, .int (nI (0))), (6, .int (nI (1))), (0, .ref (b)), (1, .ref (q)), (2, .ref (q + 204)), (3, .ref (q + 207)), (4, .ref (q + 208)), (5, .int (nI (i)))]) dL_law_830 (by decide) rfl ?_
    refine aw_aload_n dL_law_832 rfl ?_
    refine aw_callVR (As := []) (rest := []) (c_X9_thrown G hm3) kX9_thrown w_746 hm3 rfl rfl rfl rfl (Nat.le_of_ble_eq_true rfl) dL_law_833 ⟨Nat.le_of_ble_eq_true rfl, Nat.le_of_ble_eq_true rfl⟩ ⟨(show ce + 1 + 3 + 0 ≤ 641004 by omega), (show sl + 6 + 34 + 0 ≤ 7173092 by omega)⟩ ?_
    refine aw_iload dL_law_836 rfl ?_
    refine aw_icmp_eqN (tgt := 843) (by omega) (by omega) dL_law_838 (by decide) (fun cz => ?_) (fun cz => absurd cz (by omega))
    refine aw_iload dL_law_843 rfl ?_
    refine aw_if_neN (tgt := 860) (by omega) dL_law_845 (by decide) (fun cy => ?_) (fun cy => absurd cy (by omega))
    refine aw_goto (tgt := 1650) dL_law_860 (by decide) ?_
    refine aw_widen (cells' := ce + 893) (slots' := sl + 10108) (by omega) (by omega) ?_
    refine aw_sub (L' := [(0, .ref (b)), (1, .ref (q)), (2, .ref (q + 204)), (3, .ref (q + 207)), (4, .ref (q + 208)), (5, .int (nI (i)))]) [2, 3, 4, 5, 6, 7] rfl ?_
    exact K _ _ _ _ _ I3
  · skip
    refine aw_aload_n dL_law_795 rfl ?_
    refine aw_aload_n dL_law_796 rfl ?_
    refine aw_iload dL_law_797 rfl ?_
    refine aw_ic dL_law_799 ic_1 ?_
    refine aw_iaddN dL_law_800 ?_
    refine aw_sld (by omega) hL dL_law_801 ?_
    refine aw_aload_n dL_law_802 rfl ?_
    refine aw_iload dL_law_803 rfl ?_
    refine aw_ic dL_law_805 ic_2 ?_
    refine aw_iaddN dL_law_806 ?_
    refine aw_sld (by omega) hL dL_law_807 ?_
    refine aw_aload_n dL_law_808 rfl ?_
    refine aw_callH (As := [.ref (q), .int (xs (i + 1)), .int (xs (i + 2)), .ref (q + 207)]) (rest := []) (l_ofDeck G hH hσ (by omega) (Or.inr (by omega)) hf0 (xs (i + 1)) (xs (i + 2))) kL_ofDeck w_634 rfl rfl (Nat.le_of_ble_eq_true rfl) dL_law_809 ⟨Nat.le_of_ble_eq_true rfl, Nat.le_of_ble_eq_true rfl⟩ ⟨(show ce + 1 ≤ 641004 by omega), (show sl + 6 ≤ 7173092 by omega)⟩ (fun v1 h1 n1 p1 hn1 => ?_) (fun E h9 n9 p9 _ => by obtain ⟨e9, -⟩ := p9; cases e9)
    obtain ⟨pv1, -, pH, po, f1, pf, pval⟩ := p1
    have hv1 : v1 = some (.int (nI 2)) := by have e9 := pv1; rw [hx9] at e9; exact Sum.inl.inj e9
    subst hv1
    have hg1 := (po (q + 208) (Or.inr (by omega)) (by omega)).trans hg0
    have hM1 := I.A hn1 (fun b z1 z2 z3 => po b z1 z2)
    obtain ⟨s1, hm1⟩ := hM1.2.2.1
    refine aw_istore (L' := [(6, .int (nI (2))), (0, .ref (b)), (1, .ref (q)), (2, .ref (q + 204)), (3, .ref (q + 207)), (4, .ref (q + 208)), (5, .int (nI (i)))]) dL_law_812 (by decide) rfl ?_
    refine aw_aload_n dL_law_814 rfl ?_
    refine aw_aload_n dL_law_815 rfl ?_
    refine aw_iload dL_law_816 rfl ?_
    refine aw_ic dL_law_818 ic_1 ?_
    refine aw_iaddN dL_law_819 ?_
    refine aw_sld (by omega) hL dL_law_820 ?_
    refine aw_aload_n dL_law_821 rfl ?_
    refine aw_iload dL_law_822 rfl ?_
    refine aw_ic dL_law_824 ic_2 ?_
    refine aw_iaddN dL_law_825 ?_
    refine aw_sld (by omega) hL dL_law_826 ?_
    refine aw_callV (As := [.int (xs (i + 1)), .int (xs (i + 2))]) (rest := []) (m_X9_ofDeck G hM1 hσ (by omega) (xs (i + 1)) (xs (i + 2))) kX9_ofDeck w_1028 hm1 rfl rfl rfl rfl (Nat.le_of_ble_eq_true rfl) dL_law_827 ⟨Nat.le_of_ble_eq_true rfl, Nat.le_of_ble_eq_true rfl⟩ ⟨(show ce + 1 + 3 ≤ 641004 by omega), (show sl + 6 + 34 ≤ 7173092 by omega)⟩ (fun v2 h2 n2 p2 hn2 => ?_) (fun E h9 n9 p9 _ => by obtain ⟨e9, -⟩ := p9; cases e9)
    have hv2 : v2 = some (.int (nI (0))) := by have e9 := p2.1; rw [hx9] at e9; exact Sum.inl.inj e9
    obtain ⟨own2, I2, pf2, pg2⟩ := I.B hn1 pH pf hg1 (k_ofDeck hσ (xs (i + 1)) (xs (i + 2))) p2
    rw [hx9] at I2
    have I3 : LInv G own2 h2 n2 q (c + 1) _ (nI 2) := I2
    subst hv2
    obtain ⟨s3, hm3⟩ := I3.1.2.2.1
    refine aw_istore (L' := [(7, .int (nI (0))), (6, .int (nI (2))), (0, .ref (b)), (1, .ref (q)), (2, .ref (q + 204)), (3, .ref (q + 207)), (4, .ref (q + 208)), (5, .int (nI (i)))]) dL_law_830 (by decide) rfl ?_
    refine aw_aload_n dL_law_832 rfl ?_
    refine aw_callVR (As := []) (rest := []) (c_X9_thrown G hm3) kX9_thrown w_746 hm3 rfl rfl rfl rfl (Nat.le_of_ble_eq_true rfl) dL_law_833 ⟨Nat.le_of_ble_eq_true rfl, Nat.le_of_ble_eq_true rfl⟩ ⟨(show ce + 1 + 3 + 0 ≤ 641004 by omega), (show sl + 6 + 34 + 0 ≤ 7173092 by omega)⟩ ?_
    refine aw_iload dL_law_836 rfl ?_
    refine aw_icmp_eqN (tgt := 843) (by omega) (by omega) dL_law_838 (by decide) (fun cz => ?_) (fun cz => absurd cz (by omega))
    refine aw_iload dL_law_843 rfl ?_
    refine aw_if_neN (tgt := 860) (by omega) dL_law_845 (by decide) (fun cy => ?_) (fun cy => absurd cy (by omega))
    refine aw_goto (tgt := 1650) dL_law_860 (by decide) ?_
    refine aw_widen (cells' := ce + 893) (slots' := sl + 10108) (by omega) (by omega) ?_
    refine aw_sub (L' := [(0, .ref (b)), (1, .ref (q)), (2, .ref (q + 204)), (3, .ref (q + 207)), (4, .ref (q + 208)), (5, .int (nI (i)))]) [2, 3, 4, 5, 6, 7] rfl ?_
    exact K _ _ _ _ _ I3
set_option maxHeartbeats 4000000 in
set_option maxRecDepth 20000 in
theorem law_keeps (G : aG) {b L q i c nx : Nat} {xs : Nat → Int32} {own : Nat → Nat} {h : aH} {σ : aSg} {th : Int32} {ce sl : Nat} (I : LInv G own h nx q c σ th) (hc9 : c ≤ 511) (hi : i + 5 ≤ L) (hL : L ≤ 2560) (hG : G.2.2.2 < q) (hce : ce + 893 ≤ 641004) (hsl : sl + 10108 ≤ 7173092) (K : ∀ (own1 : Nat → Nat) (h1 : aH) (nx1 : Nat) (σ1 : aSg) (th1 : Int32), LInv G own1 h1 nx1 q (c + 1) σ1 th1 → aw G mL_law [] room_1 (lawQ G b L xs) (ce + 893) (sl + 10108) h1 nx1 1650 [(0, .ref (b)), (1, .ref (q)), (2, .ref (q + 204)), (3, .ref (q + 207)), (4, .ref (q + 208)), (5, .int (nI (i)))] []) : aw G mL_law [] room_1 (lawQ G b L xs) ce sl h nx 863 [(0, .ref (b)), (1, .ref (q)), (2, .ref (q + 204)), (3, .ref (q + 207)), (4, .ref (q + 208)), (5, .int (nI (i)))] [] := by
  have I0 := I
  obtain ⟨hM, hH, hσ, hO1, ⟨hO2, hO3⟩, ⟨f0, hf0⟩, ⟨g0, hg0⟩, hnx⟩ := I0
  rcases o_keeps σ (xs (i + 1)) (xs (i + 2)) with ⟨x9, hx9⟩ | hx9 | hx9
  · skip
    refine aw_aload_n dL_law_863 rfl ?_
    refine aw_aload_n dL_law_864 rfl ?_
    refine aw_iload dL_law_865 rfl ?_
    refine aw_ic dL_law_867 ic_1 ?_
    refine aw_iaddN dL_law_868 ?_
    refine aw_sld (by omega) hL dL_law_869 ?_
    refine aw_aload_n dL_law_870 rfl ?_
    refine aw_iload dL_law_871 rfl ?_
    refine aw_ic dL_law_873 ic_2 ?_
    refine aw_iaddN dL_law_874 ?_
    refine aw_sld (by omega) hL dL_law_875 ?_
    refine aw_aload_n dL_law_876 rfl ?_
    refine aw_callH (As := [.ref (q), .int (xs (i + 1)), .int (xs (i + 2)), .ref (q + 207)]) (rest := []) (l_keeps G hH hσ (by omega) (Or.inr (by omega)) hf0 (xs (i + 1)) (xs (i + 2))) kL_keeps w_638 rfl rfl (Nat.le_of_ble_eq_true rfl) dL_law_877 ⟨Nat.le_of_ble_eq_true rfl, Nat.le_of_ble_eq_true rfl⟩ ⟨(show ce + 1 ≤ 641004 by omega), (show sl + 6 ≤ 7173092 by omega)⟩ (fun v1 h1 n1 p1 hn1 => ?_) (fun E h9 n9 p9 _ => by obtain ⟨e9, -⟩ := p9; cases e9)
    obtain ⟨pv1, -, pH, po, f1, pf, pval⟩ := p1
    have hv1 : v1 = some (.int (nI 0)) := by have e9 := pv1; rw [hx9] at e9; exact Sum.inl.inj e9
    subst hv1
    have hg1 := (po (q + 208) (Or.inr (by omega)) (by omega)).trans hg0
    have hM1 := I.A hn1 (fun b z1 z2 z3 => po b z1 z2)
    obtain ⟨s1, hm1⟩ := hM1.2.2.1
    refine aw_istore (L' := [(6, .int (nI (0))), (0, .ref (b)), (1, .ref (q)), (2, .ref (q + 204)), (3, .ref (q + 207)), (4, .ref (q + 208)), (5, .int (nI (i)))]) dL_law_880 (by decide) rfl ?_
    refine aw_aload_n dL_law_882 rfl ?_
    refine aw_aload_n dL_law_883 rfl ?_
    refine aw_iload dL_law_884 rfl ?_
    refine aw_ic dL_law_886 ic_1 ?_
    refine aw_iaddN dL_law_887 ?_
    refine aw_sld (by omega) hL dL_law_888 ?_
    refine aw_aload_n dL_law_889 rfl ?_
    refine aw_iload dL_law_890 rfl ?_
    refine aw_ic dL_law_892 ic_2 ?_
    refine aw_iaddN dL_law_893 ?_
    refine aw_sld (by omega) hL dL_law_894 ?_
    refine aw_callV (As := [.int (xs (i + 1)), .int (xs (i + 2))]) (rest := []) (m_X9_keeps G hM1 hσ (by omega) (xs (i + 1)) (xs (i + 2))) kX9_keeps w_1070 hm1 rfl rfl rfl rfl (Nat.le_of_ble_eq_true rfl) dL_law_895 ⟨Nat.le_of_ble_eq_true rfl, Nat.le_of_ble_eq_true rfl⟩ ⟨(show ce + 1 + 3 ≤ 641004 by omega), (show sl + 6 + 34 ≤ 7173092 by omega)⟩ (fun v2 h2 n2 p2 hn2 => ?_) (fun E h9 n9 p9 _ => by obtain ⟨e9, -⟩ := p9; cases e9)
    have hv2 : v2 = some (.int (bI (x9))) := by have e9 := p2.1; rw [hx9] at e9; exact Sum.inl.inj e9
    obtain ⟨own2, I2, pf2, pg2⟩ := I.B hn1 pH pf hg1 (k_keeps hσ (xs (i + 1)) (xs (i + 2))) p2
    rw [hx9] at I2
    have I3 : LInv G own2 h2 n2 q (c + 1) _ (nI 0) := I2
    subst hv2
    obtain ⟨s3, hm3⟩ := I3.1.2.2.1
    refine aw_istore (L' := [(7, .int (bI (x9))), (6, .int (nI (0))), (0, .ref (b)), (1, .ref (q)), (2, .ref (q + 204)), (3, .ref (q + 207)), (4, .ref (q + 208)), (5, .int (nI (i)))]) dL_law_898 (by decide) rfl ?_
    refine aw_aload_n dL_law_900 rfl ?_
    refine aw_callVR (As := []) (rest := []) (c_X9_thrown G hm3) kX9_thrown w_746 hm3 rfl rfl rfl rfl (Nat.le_of_ble_eq_true rfl) dL_law_901 ⟨Nat.le_of_ble_eq_true rfl, Nat.le_of_ble_eq_true rfl⟩ ⟨(show ce + 1 + 3 + 0 ≤ 641004 by omega), (show sl + 6 + 34 + 0 ≤ 7173092 by omega)⟩ ?_
    refine aw_iload dL_law_904 rfl ?_
    refine aw_icmp_eqN (tgt := 911) (by omega) (by omega) dL_law_906 (by decide) (fun cz => ?_) (fun cz => absurd cz (by omega))
    refine aw_iload dL_law_911 rfl ?_
    refine aw_if_neN (tgt := 935) (by omega) dL_law_913 (by decide) (fun cy => absurd cy (by omega)) (fun cy => ?_)
    refine aw_aload_n dL_law_916 rfl ?_
    refine aw_ic dL_law_917 ic_0 ?_
    refine aw_laload pf2 (by omega) (by omega) dL_law_918 ?_
    refine aw_iload dL_law_919 rfl ?_
    refine aw_if_eqB (tgt := 928) dL_law_921 (by decide) (fun cb => ?_) (fun cb => ?_)
    · skip
      refine aw_lconst (v := 0) dL_law_928 (by decide) ?_
      refine aw_lcmp dL_law_929 ?_
      refine aw_top (show (lg_cmp (f1 0) 0) = (nI (0)) from (by rw [pval _ hx9, cb]; first | decide | rfl)) ?_
      refine aw_if_eqN (tgt := 935) (by omega) dL_law_930 (by decide) (fun cx => ?_) (fun cx => absurd cx (by omega))
      refine aw_goto (tgt := 1650) dL_law_935 (by decide) ?_
      refine aw_widen (cells' := ce + 893) (slots' := sl + 10108) (by omega) (by omega) ?_
      refine aw_sub (L' := [(0, .ref (b)), (1, .ref (q)), (2, .ref (q + 204)), (3, .ref (q + 207)), (4, .ref (q + 208)), (5, .int (nI (i)))]) [2, 3, 4, 5, 6, 7] rfl ?_
      exact K _ _ _ _ _ I3
    · skip
      refine aw_lconst (v := 1) dL_law_924 (by decide) ?_
      refine aw_goto (tgt := 929) dL_law_925 (by decide) ?_
      refine aw_lcmp dL_law_929 ?_
      refine aw_top (show (lg_cmp (f1 0) 1) = (nI (0)) from (by rw [pval _ hx9, cb]; first | decide | rfl)) ?_
      refine aw_if_eqN (tgt := 935) (by omega) dL_law_930 (by decide) (fun cx => ?_) (fun cx => absurd cx (by omega))
      refine aw_goto (tgt := 1650) dL_law_935 (by decide) ?_
      refine aw_widen (cells' := ce + 893) (slots' := sl + 10108) (by omega) (by omega) ?_
      refine aw_sub (L' := [(0, .ref (b)), (1, .ref (q)), (2, .ref (q + 204)), (3, .ref (q + 207)), (4, .ref (q + 208)), (5, .int (nI (i)))]) [2, 3, 4, 5, 6, 7] rfl ?_
      exact K _ _ _ _ _ I3
  · skip
    refine aw_aload_n dL_law_863 rfl ?_
    refine aw_aload_n dL_law_864 rfl ?_
    refine aw_iload dL_law_865 rfl ?_
    refine aw_ic dL_law_867 ic_1 ?_
    refine aw_iaddN dL_law_868 ?_
    refine aw_sld (by omega) hL dL_law_869 ?_
    refine aw_aload_n dL_law_870 rfl ?_
    refine aw_iload dL_law_871 rfl ?_
    refine aw_ic dL_law_873 ic_2 ?_
    refine aw_iaddN dL_law_874 ?_
    refine aw_sld (by omega) hL dL_law_875 ?_
    refine aw_aload_n dL_law_876 rfl ?_
    refine aw_callH (As := [.ref (q), .int (xs (i + 1)), .int (xs (i + 2)), .ref (q + 207)]) (rest := []) (l_keeps G hH hσ (by omega) (Or.inr (by omega)) hf0 (xs (i + 1)) (xs (i + 2))) kL_keeps w_638 rfl rfl (Nat.le_of_ble_eq_true rfl) dL_law_877 ⟨Nat.le_of_ble_eq_true rfl, Nat.le_of_ble_eq_true rfl⟩ ⟨(show ce + 1 ≤ 641004 by omega), (show sl + 6 ≤ 7173092 by omega)⟩ (fun v1 h1 n1 p1 hn1 => ?_) (fun E h9 n9 p9 _ => by obtain ⟨e9, -⟩ := p9; cases e9)
    obtain ⟨pv1, -, pH, po, f1, pf, pval⟩ := p1
    have hv1 : v1 = some (.int (nI 1)) := by have e9 := pv1; rw [hx9] at e9; exact Sum.inl.inj e9
    subst hv1
    have hg1 := (po (q + 208) (Or.inr (by omega)) (by omega)).trans hg0
    have hM1 := I.A hn1 (fun b z1 z2 z3 => po b z1 z2)
    obtain ⟨s1, hm1⟩ := hM1.2.2.1
    refine aw_istore (L' := [(6, .int (nI (1))), (0, .ref (b)), (1, .ref (q)), (2, .ref (q + 204)), (3, .ref (q + 207)), (4, .ref (q + 208)), (5, .int (nI (i)))]) dL_law_880 (by decide) rfl ?_
    refine aw_aload_n dL_law_882 rfl ?_
    refine aw_aload_n dL_law_883 rfl ?_
    refine aw_iload dL_law_884 rfl ?_
    refine aw_ic dL_law_886 ic_1 ?_
    refine aw_iaddN dL_law_887 ?_
    refine aw_sld (by omega) hL dL_law_888 ?_
    refine aw_aload_n dL_law_889 rfl ?_
    refine aw_iload dL_law_890 rfl ?_
    refine aw_ic dL_law_892 ic_2 ?_
    refine aw_iaddN dL_law_893 ?_
    refine aw_sld (by omega) hL dL_law_894 ?_
    refine aw_callV (As := [.int (xs (i + 1)), .int (xs (i + 2))]) (rest := []) (m_X9_keeps G hM1 hσ (by omega) (xs (i + 1)) (xs (i + 2))) kX9_keeps w_1070 hm1 rfl rfl rfl rfl (Nat.le_of_ble_eq_true rfl) dL_law_895 ⟨Nat.le_of_ble_eq_true rfl, Nat.le_of_ble_eq_true rfl⟩ ⟨(show ce + 1 + 3 ≤ 641004 by omega), (show sl + 6 + 34 ≤ 7173092 by omega)⟩ (fun v2 h2 n2 p2 hn2 => ?_) (fun E h9 n9 p9 _ => by obtain ⟨e9, -⟩ := p9; cases e9)
    have hv2 : v2 = some (.int (bI (false))) := by have e9 := p2.1; rw [hx9] at e9; exact Sum.inl.inj e9
    obtain ⟨own2, I2, pf2, pg2⟩ := I.B hn1 pH pf hg1 (k_keeps hσ (xs (i + 1)) (xs (i + 2))) p2
    rw [hx9] at I2
    have I3 : LInv G own2 h2 n2 q (c + 1) _ (nI 1) := I2
    subst hv2
    obtain ⟨s3, hm3⟩ := I3.1.2.2.1
    refine aw_istore (L' := [(7, .int (bI (false))), (6, .int (nI (1))), (0, .ref (b)), (1, .ref (q)), (2, .ref (q + 204)), (3, .ref (q + 207)), (4, .ref (q + 208)), (5, .int (nI (i)))]) dL_law_898 (by decide) rfl ?_
    refine aw_aload_n dL_law_900 rfl ?_
    refine aw_callVR (As := []) (rest := []) (c_X9_thrown G hm3) kX9_thrown w_746 hm3 rfl rfl rfl rfl (Nat.le_of_ble_eq_true rfl) dL_law_901 ⟨Nat.le_of_ble_eq_true rfl, Nat.le_of_ble_eq_true rfl⟩ ⟨(show ce + 1 + 3 + 0 ≤ 641004 by omega), (show sl + 6 + 34 + 0 ≤ 7173092 by omega)⟩ ?_
    refine aw_iload dL_law_904 rfl ?_
    refine aw_icmp_eqN (tgt := 911) (by omega) (by omega) dL_law_906 (by decide) (fun cz => ?_) (fun cz => absurd cz (by omega))
    refine aw_iload dL_law_911 rfl ?_
    refine aw_if_neN (tgt := 935) (by omega) dL_law_913 (by decide) (fun cy => ?_) (fun cy => absurd cy (by omega))
    refine aw_goto (tgt := 1650) dL_law_935 (by decide) ?_
    refine aw_widen (cells' := ce + 893) (slots' := sl + 10108) (by omega) (by omega) ?_
    refine aw_sub (L' := [(0, .ref (b)), (1, .ref (q)), (2, .ref (q + 204)), (3, .ref (q + 207)), (4, .ref (q + 208)), (5, .int (nI (i)))]) [2, 3, 4, 5, 6, 7] rfl ?_
    exact K _ _ _ _ _ I3
  · skip
    refine aw_aload_n dL_law_863 rfl ?_
    refine aw_aload_n dL_law_864 rfl ?_
    refine aw_iload dL_law_865 rfl ?_
    refine aw_ic dL_law_867 ic_1 ?_
    refine aw_iaddN dL_law_868 ?_
    refine aw_sld (by omega) hL dL_law_869 ?_
    refine aw_aload_n dL_law_870 rfl ?_
    refine aw_iload dL_law_871 rfl ?_
    refine aw_ic dL_law_873 ic_2 ?_
    refine aw_iaddN dL_law_874 ?_
    refine aw_sld (by omega) hL dL_law_875 ?_
    refine aw_aload_n dL_law_876 rfl ?_
    refine aw_callH (As := [.ref (q), .int (xs (i + 1)), .int (xs (i + 2)), .ref (q + 207)]) (rest := []) (l_keeps G hH hσ (by omega) (Or.inr (by omega)) hf0 (xs (i + 1)) (xs (i + 2))) kL_keeps w_638 rfl rfl (Nat.le_of_ble_eq_true rfl) dL_law_877 ⟨Nat.le_of_ble_eq_true rfl, Nat.le_of_ble_eq_true rfl⟩ ⟨(show ce + 1 ≤ 641004 by omega), (show sl + 6 ≤ 7173092 by omega)⟩ (fun v1 h1 n1 p1 hn1 => ?_) (fun E h9 n9 p9 _ => by obtain ⟨e9, -⟩ := p9; cases e9)
    obtain ⟨pv1, -, pH, po, f1, pf, pval⟩ := p1
    have hv1 : v1 = some (.int (nI 2)) := by have e9 := pv1; rw [hx9] at e9; exact Sum.inl.inj e9
    subst hv1
    have hg1 := (po (q + 208) (Or.inr (by omega)) (by omega)).trans hg0
    have hM1 := I.A hn1 (fun b z1 z2 z3 => po b z1 z2)
    obtain ⟨s1, hm1⟩ := hM1.2.2.1
    refine aw_istore (L' := [(6, .int (nI (2))), (0, .ref (b)), (1, .ref (q)), (2, .ref (q + 204)), (3, .ref (q + 207)), (4, .ref (q + 208)), (5, .int (nI (i)))]) dL_law_880 (by decide) rfl ?_
    refine aw_aload_n dL_law_882 rfl ?_
    refine aw_aload_n dL_law_883 rfl ?_
    refine aw_iload dL_law_884 rfl ?_
    refine aw_ic dL_law_886 ic_1 ?_
    refine aw_iaddN dL_law_887 ?_
    refine aw_sld (by omega) hL dL_law_888 ?_
    refine aw_aload_n dL_law_889 rfl ?_
    refine aw_iload dL_law_890 rfl ?_
    refine aw_ic dL_law_892 ic_2 ?_
    refine aw_iaddN dL_law_893 ?_
    refine aw_sld (by omega) hL dL_law_894 ?_
    refine aw_callV (As := [.int (xs (i + 1)), .int (xs (i + 2))]) (rest := []) (m_X9_keeps G hM1 hσ (by omega) (xs (i + 1)) (xs (i + 2))) kX9_keeps w_1070 hm1 rfl rfl rfl rfl (Nat.le_of_ble_eq_true rfl) dL_law_895 ⟨Nat.le_of_ble_eq_true rfl, Nat.le_of_ble_eq_true rfl⟩ ⟨(show ce + 1 + 3 ≤ 641004 by omega), (show sl + 6 + 34 ≤ 7173092 by omega)⟩ (fun v2 h2 n2 p2 hn2 => ?_) (fun E h9 n9 p9 _ => by obtain ⟨e9, -⟩ := p9; cases e9)
    have hv2 : v2 = some (.int (bI (false))) := by have e9 := p2.1; rw [hx9] at e9; exact Sum.inl.inj e9
    obtain ⟨own2, I2, pf2, pg2⟩ := I.B hn1 pH pf hg1 (k_keeps hσ (xs (i + 1)) (xs (i + 2))) p2
    rw [hx9] at I2
    have I3 : LInv G own2 h2 n2 q (c + 1) _ (nI 2) := I2
    subst hv2
    obtain ⟨s3, hm3⟩ := I3.1.2.2.1
    refine aw_istore (L' := [(7, .int (bI (false))), (6, .int (nI (2))), (0, .ref (b)), (1, .ref (q)), (2, .ref (q + 204)), (3, .ref (q + 207)), (4, .ref (q + 208)), (5, .int (nI (i)))]) dL_law_898 (by decide) rfl ?_
    refine aw_aload_n dL_law_900 rfl ?_
    refine aw_callVR (As := []) (rest := []) (c_X9_thrown G hm3) kX9_thrown w_746 hm3 rfl rfl rfl rfl (Nat.le_of_ble_eq_true rfl) dL_law_901 ⟨Nat.le_of_ble_eq_true rfl, Nat.le_of_ble_eq_true rfl⟩ ⟨(show ce + 1 + 3 + 0 ≤ 641004 by omega), (show sl + 6 + 34 + 0 ≤ 7173092 by omega)⟩ ?_
    refine aw_iload dL_law_904 rfl ?_
    refine aw_icmp_eqN (tgt := 911) (by omega) (by omega) dL_law_906 (by decide) (fun cz => ?_) (fun cz => absurd cz (by omega))
    refine aw_iload dL_law_911 rfl ?_
    refine aw_if_neN (tgt := 935) (by omega) dL_law_913 (by decide) (fun cy => ?_) (fun cy => absurd cy (by omega))
    refine aw_goto (tgt := 1650) dL_law_935 (by decide) ?_
    refine aw_widen (cells' := ce + 893) (slots' := sl + 10108) (by omega) (by omega) ?_
    refine aw_sub (L' := [(0, .ref (b)), (1, .ref (q)), (2, .ref (q + 204)), (3, .ref (q + 207)), (4, .ref (q + 208)), (5, .int (nI (i)))]) [2, 3, 4, 5, 6, 7] rfl ?_
    exact K _ _ _ _ _ I3
set_option maxHeartbeats 4000000 in
set_option maxRecDepth 20000 in
theorem law_chance (G : aG) {b L q i c nx : Nat} {xs : Nat → Int32} {own : Nat → Nat} {h : aH} {σ : aSg} {th : Int32} {ce sl : Nat} (I : LInv G own h nx q c σ th) (hc9 : c ≤ 511) (hi : i + 5 ≤ L) (hL : L ≤ 2560) (hG : G.2.2.2 < q) (hce : ce + 893 ≤ 641004) (hsl : sl + 10108 ≤ 7173092) (K : ∀ (own1 : Nat → Nat) (h1 : aH) (nx1 : Nat) (σ1 : aSg) (th1 : Int32), LInv G own1 h1 nx1 q (c + 1) σ1 th1 → aw G mL_law [] room_1 (lawQ G b L xs) (ce + 893) (sl + 10108) h1 nx1 1650 [(0, .ref (b)), (1, .ref (q)), (2, .ref (q + 204)), (3, .ref (q + 207)), (4, .ref (q + 208)), (5, .int (nI (i)))] []) : aw G mL_law [] room_1 (lawQ G b L xs) ce sl h nx 938 [(0, .ref (b)), (1, .ref (q)), (2, .ref (q + 204)), (3, .ref (q + 207)), (4, .ref (q + 208)), (5, .int (nI (i)))] [] := by
  have I0 := I
  obtain ⟨hM, hH, hσ, hO1, ⟨hO2, hO3⟩, ⟨f0, hf0⟩, ⟨g0, hg0⟩, hnx⟩ := I0
  rcases o_chance σ (xs (i + 1)) (xs (i + 2)) with ⟨x9, hx9⟩ | hx9 | hx9
  · skip
    refine aw_aload_n dL_law_938 rfl ?_
    refine aw_aload_n dL_law_939 rfl ?_
    refine aw_iload dL_law_940 rfl ?_
    refine aw_ic dL_law_942 ic_1 ?_
    refine aw_iaddN dL_law_943 ?_
    refine aw_sld (by omega) hL dL_law_944 ?_
    refine aw_aload_n dL_law_945 rfl ?_
    refine aw_iload dL_law_946 rfl ?_
    refine aw_ic dL_law_948 ic_2 ?_
    refine aw_iaddN dL_law_949 ?_
    refine aw_sld (by omega) hL dL_law_950 ?_
    refine aw_aload dL_law_951 rfl ?_
    refine aw_callH (As := [.ref (q), .int (xs (i + 1)), .int (xs (i + 2)), .ref (q + 208)]) (rest := []) (l_chance G hH hσ (by omega) (Or.inr (by omega)) hg0 (xs (i + 1)) (xs (i + 2))) kL_chance w_642 rfl rfl (Nat.le_of_ble_eq_true rfl) dL_law_953 ⟨Nat.le_of_ble_eq_true rfl, Nat.le_of_ble_eq_true rfl⟩ ⟨(show ce + 1 ≤ 641004 by omega), (show sl + 6 ≤ 7173092 by omega)⟩ (fun v1 h1 n1 p1 hn1 => ?_) (fun E h9 n9 p9 _ => by obtain ⟨e9, -⟩ := p9; cases e9)
    obtain ⟨pv1, -, pH, po, f1, pf, pval⟩ := p1
    have hv1 : v1 = some (.int (nI 0)) := by have e9 := pv1; rw [hx9] at e9; exact Sum.inl.inj e9
    subst hv1
    have hf1 := (po (q + 207) (Or.inr (by omega)) (by omega)).trans hf0
    have hM1 := I.A hn1 (fun b z1 z2 z3 => po b z1 z3)
    obtain ⟨s1, hm1⟩ := hM1.2.2.1
    refine aw_istore (L' := [(6, .int (nI (0))), (0, .ref (b)), (1, .ref (q)), (2, .ref (q + 204)), (3, .ref (q + 207)), (4, .ref (q + 208)), (5, .int (nI (i)))]) dL_law_956 (by decide) rfl ?_
    refine aw_aload_n dL_law_958 rfl ?_
    refine aw_aload_n dL_law_959 rfl ?_
    refine aw_iload dL_law_960 rfl ?_
    refine aw_ic dL_law_962 ic_1 ?_
    refine aw_iaddN dL_law_963 ?_
    refine aw_sld (by omega) hL dL_law_964 ?_
    refine aw_aload_n dL_law_965 rfl ?_
    refine aw_iload dL_law_966 rfl ?_
    refine aw_ic dL_law_968 ic_2 ?_
    refine aw_iaddN dL_law_969 ?_
    refine aw_sld (by omega) hL dL_law_970 ?_
    refine aw_callV (As := [.int (xs (i + 1)), .int (xs (i + 2))]) (rest := []) (m_X9_chance G hM1 hσ (by omega) (xs (i + 1)) (xs (i + 2))) kX9_chance w_1099 hm1 rfl rfl rfl rfl (Nat.le_of_ble_eq_true rfl) dL_law_971 ⟨Nat.le_of_ble_eq_true rfl, Nat.le_of_ble_eq_true rfl⟩ ⟨(show ce + 1 + 0 ≤ 641004 by omega), (show sl + 6 + 0 ≤ 7173092 by omega)⟩ (fun v2 h2 n2 p2 hn2 => ?_) (fun E h9 n9 p9 _ => by obtain ⟨e9, -⟩ := p9; cases e9)
    have hv2 : v2 = some (.double (x9)) := by have e9 := p2.1; rw [hx9] at e9; exact Sum.inl.inj e9
    obtain ⟨own2, I2, pf2, pg2⟩ := I.B hn1 pH hf1 pf (k_chance hσ (xs (i + 1)) (xs (i + 2))) p2
    rw [hx9] at I2
    have I3 : LInv G own2 h2 n2 q (c + 1) _ (nI 0) := I2
    subst hv2
    obtain ⟨s3, hm3⟩ := I3.1.2.2.1
    refine aw_dstore (L' := [(7, .double (x9)), (6, .int (nI (0))), (0, .ref (b)), (1, .ref (q)), (2, .ref (q + 204)), (3, .ref (q + 207)), (4, .ref (q + 208)), (5, .int (nI (i)))]) dL_law_974 (by decide) rfl ?_
    refine aw_aload_n dL_law_976 rfl ?_
    refine aw_callVR (As := []) (rest := []) (c_X9_thrown G hm3) kX9_thrown w_746 hm3 rfl rfl rfl rfl (Nat.le_of_ble_eq_true rfl) dL_law_977 ⟨Nat.le_of_ble_eq_true rfl, Nat.le_of_ble_eq_true rfl⟩ ⟨(show ce + 1 + 0 + 0 ≤ 641004 by omega), (show sl + 6 + 0 + 0 ≤ 7173092 by omega)⟩ ?_
    refine aw_iload dL_law_980 rfl ?_
    refine aw_icmp_eqN (tgt := 987) (by omega) (by omega) dL_law_982 (by decide) (fun cz => ?_) (fun cz => absurd cz (by omega))
    refine aw_iload dL_law_987 rfl ?_
    refine aw_if_neN (tgt := 1024) (by omega) dL_law_989 (by decide) (fun cy => absurd cy (by omega)) (fun cy => ?_)
    have hfx := pval x9 hx9
    obtain ⟨v9, hv9⟩ : ∃ v9, v9 = Op.cmpValue (FP.dcmp x9 x9) CmpOp.l := ⟨_, rfl⟩
    refine aw_aload dL_law_992 rfl ?_
    refine aw_ic dL_law_994 ic_0 ?_
    refine aw_daload pg2 (by omega) (by omega) dL_law_995 ?_
    refine aw_dload dL_law_996 rfl ?_
    rw [hfx]
    refine aw_dcmp dL_law_998 ?_
    rw [← hv9]
    refine aw_if_eq (tgt := 1024) dL_law_999 (by decide) (fun cv => ?_) (fun cv => ?_)
    · skip
      refine aw_goto (tgt := 1650) dL_law_1024 (by decide) ?_
      refine aw_widen (cells' := ce + 893) (slots' := sl + 10108) (by omega) (by omega) ?_
      refine aw_sub (L' := [(0, .ref (b)), (1, .ref (q)), (2, .ref (q + 204)), (3, .ref (q + 207)), (4, .ref (q + 208)), (5, .int (nI (i)))]) [2, 3, 4, 5, 6, 7] rfl ?_
      exact K _ _ _ _ _ I3
    · skip
      refine aw_aload dL_law_1002 rfl ?_
      refine aw_ic dL_law_1004 ic_0 ?_
      refine aw_daload pg2 (by omega) (by omega) dL_law_1005 ?_
      refine aw_aload dL_law_1006 rfl ?_
      refine aw_ic dL_law_1008 ic_0 ?_
      refine aw_daload pg2 (by omega) (by omega) dL_law_1009 ?_
      rw [hfx]
      refine aw_dcmp dL_law_1010 ?_
      rw [← hv9]
      refine aw_if_eq (tgt := 1022) dL_law_1011 (by decide) (fun c2 => absurd c2 (cv)) (fun c2 => ?_)
      refine aw_dload dL_law_1014 rfl ?_
      refine aw_dload dL_law_1016 rfl ?_
      refine aw_dcmp dL_law_1018 ?_
      rw [← hv9]
      refine aw_if_ne (tgt := 1024) dL_law_1019 (by decide) (fun c3 => ?_) (fun c3 => absurd c3 (cv))
      refine aw_goto (tgt := 1650) dL_law_1024 (by decide) ?_
      refine aw_widen (cells' := ce + 893) (slots' := sl + 10108) (by omega) (by omega) ?_
      refine aw_sub (L' := [(0, .ref (b)), (1, .ref (q)), (2, .ref (q + 204)), (3, .ref (q + 207)), (4, .ref (q + 208)), (5, .int (nI (i)))]) [2, 3, 4, 5, 6, 7] rfl ?_
      exact K _ _ _ _ _ I3
  · skip
    refine aw_aload_n dL_law_938 rfl ?_
    refine aw_aload_n dL_law_939 rfl ?_
    refine aw_iload dL_law_940 rfl ?_
    refine aw_ic dL_law_942 ic_1 ?_
    refine aw_iaddN dL_law_943 ?_
    refine aw_sld (by omega) hL dL_law_944 ?_
    refine aw_aload_n dL_law_945 rfl ?_
    refine aw_iload dL_law_946 rfl ?_
    refine aw_ic dL_law_948 ic_2 ?_
    refine aw_iaddN dL_law_949 ?_
    refine aw_sld (by omega) hL dL_law_950 ?_
    refine aw_aload dL_law_951 rfl ?_
    refine aw_callH (As := [.ref (q), .int (xs (i + 1)), .int (xs (i + 2)), .ref (q + 208)]) (rest := []) (l_chance G hH hσ (by omega) (Or.inr (by omega)) hg0 (xs (i + 1)) (xs (i + 2))) kL_chance w_642 rfl rfl (Nat.le_of_ble_eq_true rfl) dL_law_953 ⟨Nat.le_of_ble_eq_true rfl, Nat.le_of_ble_eq_true rfl⟩ ⟨(show ce + 1 ≤ 641004 by omega), (show sl + 6 ≤ 7173092 by omega)⟩ (fun v1 h1 n1 p1 hn1 => ?_) (fun E h9 n9 p9 _ => by obtain ⟨e9, -⟩ := p9; cases e9)
    obtain ⟨pv1, -, pH, po, f1, pf, pval⟩ := p1
    have hv1 : v1 = some (.int (nI 1)) := by have e9 := pv1; rw [hx9] at e9; exact Sum.inl.inj e9
    subst hv1
    have hf1 := (po (q + 207) (Or.inr (by omega)) (by omega)).trans hf0
    have hM1 := I.A hn1 (fun b z1 z2 z3 => po b z1 z3)
    obtain ⟨s1, hm1⟩ := hM1.2.2.1
    refine aw_istore (L' := [(6, .int (nI (1))), (0, .ref (b)), (1, .ref (q)), (2, .ref (q + 204)), (3, .ref (q + 207)), (4, .ref (q + 208)), (5, .int (nI (i)))]) dL_law_956 (by decide) rfl ?_
    refine aw_aload_n dL_law_958 rfl ?_
    refine aw_aload_n dL_law_959 rfl ?_
    refine aw_iload dL_law_960 rfl ?_
    refine aw_ic dL_law_962 ic_1 ?_
    refine aw_iaddN dL_law_963 ?_
    refine aw_sld (by omega) hL dL_law_964 ?_
    refine aw_aload_n dL_law_965 rfl ?_
    refine aw_iload dL_law_966 rfl ?_
    refine aw_ic dL_law_968 ic_2 ?_
    refine aw_iaddN dL_law_969 ?_
    refine aw_sld (by omega) hL dL_law_970 ?_
    refine aw_callV (As := [.int (xs (i + 1)), .int (xs (i + 2))]) (rest := []) (m_X9_chance G hM1 hσ (by omega) (xs (i + 1)) (xs (i + 2))) kX9_chance w_1099 hm1 rfl rfl rfl rfl (Nat.le_of_ble_eq_true rfl) dL_law_971 ⟨Nat.le_of_ble_eq_true rfl, Nat.le_of_ble_eq_true rfl⟩ ⟨(show ce + 1 + 0 ≤ 641004 by omega), (show sl + 6 + 0 ≤ 7173092 by omega)⟩ (fun v2 h2 n2 p2 hn2 => ?_) (fun E h9 n9 p9 _ => by obtain ⟨e9, -⟩ := p9; cases e9)
    have hv2 : v2 = some (.double (FP.dconst0)) := by have e9 := p2.1; rw [hx9] at e9; exact Sum.inl.inj e9
    obtain ⟨own2, I2, pf2, pg2⟩ := I.B hn1 pH hf1 pf (k_chance hσ (xs (i + 1)) (xs (i + 2))) p2
    rw [hx9] at I2
    have I3 : LInv G own2 h2 n2 q (c + 1) _ (nI 1) := I2
    subst hv2
    obtain ⟨s3, hm3⟩ := I3.1.2.2.1
    refine aw_dstore (L' := [(7, .double (FP.dconst0)), (6, .int (nI (1))), (0, .ref (b)), (1, .ref (q)), (2, .ref (q + 204)), (3, .ref (q + 207)), (4, .ref (q + 208)), (5, .int (nI (i)))]) dL_law_974 (by decide) rfl ?_
    refine aw_aload_n dL_law_976 rfl ?_
    refine aw_callVR (As := []) (rest := []) (c_X9_thrown G hm3) kX9_thrown w_746 hm3 rfl rfl rfl rfl (Nat.le_of_ble_eq_true rfl) dL_law_977 ⟨Nat.le_of_ble_eq_true rfl, Nat.le_of_ble_eq_true rfl⟩ ⟨(show ce + 1 + 0 + 0 ≤ 641004 by omega), (show sl + 6 + 0 + 0 ≤ 7173092 by omega)⟩ ?_
    refine aw_iload dL_law_980 rfl ?_
    refine aw_icmp_eqN (tgt := 987) (by omega) (by omega) dL_law_982 (by decide) (fun cz => ?_) (fun cz => absurd cz (by omega))
    refine aw_iload dL_law_987 rfl ?_
    refine aw_if_neN (tgt := 1024) (by omega) dL_law_989 (by decide) (fun cy => ?_) (fun cy => absurd cy (by omega))
    refine aw_goto (tgt := 1650) dL_law_1024 (by decide) ?_
    refine aw_widen (cells' := ce + 893) (slots' := sl + 10108) (by omega) (by omega) ?_
    refine aw_sub (L' := [(0, .ref (b)), (1, .ref (q)), (2, .ref (q + 204)), (3, .ref (q + 207)), (4, .ref (q + 208)), (5, .int (nI (i)))]) [2, 3, 4, 5, 6, 7] rfl ?_
    exact K _ _ _ _ _ I3
  · skip
    refine aw_aload_n dL_law_938 rfl ?_
    refine aw_aload_n dL_law_939 rfl ?_
    refine aw_iload dL_law_940 rfl ?_
    refine aw_ic dL_law_942 ic_1 ?_
    refine aw_iaddN dL_law_943 ?_
    refine aw_sld (by omega) hL dL_law_944 ?_
    refine aw_aload_n dL_law_945 rfl ?_
    refine aw_iload dL_law_946 rfl ?_
    refine aw_ic dL_law_948 ic_2 ?_
    refine aw_iaddN dL_law_949 ?_
    refine aw_sld (by omega) hL dL_law_950 ?_
    refine aw_aload dL_law_951 rfl ?_
    refine aw_callH (As := [.ref (q), .int (xs (i + 1)), .int (xs (i + 2)), .ref (q + 208)]) (rest := []) (l_chance G hH hσ (by omega) (Or.inr (by omega)) hg0 (xs (i + 1)) (xs (i + 2))) kL_chance w_642 rfl rfl (Nat.le_of_ble_eq_true rfl) dL_law_953 ⟨Nat.le_of_ble_eq_true rfl, Nat.le_of_ble_eq_true rfl⟩ ⟨(show ce + 1 ≤ 641004 by omega), (show sl + 6 ≤ 7173092 by omega)⟩ (fun v1 h1 n1 p1 hn1 => ?_) (fun E h9 n9 p9 _ => by obtain ⟨e9, -⟩ := p9; cases e9)
    obtain ⟨pv1, -, pH, po, f1, pf, pval⟩ := p1
    have hv1 : v1 = some (.int (nI 2)) := by have e9 := pv1; rw [hx9] at e9; exact Sum.inl.inj e9
    subst hv1
    have hf1 := (po (q + 207) (Or.inr (by omega)) (by omega)).trans hf0
    have hM1 := I.A hn1 (fun b z1 z2 z3 => po b z1 z3)
    obtain ⟨s1, hm1⟩ := hM1.2.2.1
    refine aw_istore (L' := [(6, .int (nI (2))), (0, .ref (b)), (1, .ref (q)), (2, .ref (q + 204)), (3, .ref (q + 207)), (4, .ref (q + 208)), (5, .int (nI (i)))]) dL_law_956 (by decide) rfl ?_
    refine aw_aload_n dL_law_958 rfl ?_
    refine aw_aload_n dL_law_959 rfl ?_
    refine aw_iload dL_law_960 rfl ?_
    refine aw_ic dL_law_962 ic_1 ?_
    refine aw_iaddN dL_law_963 ?_
    refine aw_sld (by omega) hL dL_law_964 ?_
    refine aw_aload_n dL_law_965 rfl ?_
    refine aw_iload dL_law_966 rfl ?_
    refine aw_ic dL_law_968 ic_2 ?_
    refine aw_iaddN dL_law_969 ?_
    refine aw_sld (by omega) hL dL_law_970 ?_
    refine aw_callV (As := [.int (xs (i + 1)), .int (xs (i + 2))]) (rest := []) (m_X9_chance G hM1 hσ (by omega) (xs (i + 1)) (xs (i + 2))) kX9_chance w_1099 hm1 rfl rfl rfl rfl (Nat.le_of_ble_eq_true rfl) dL_law_971 ⟨Nat.le_of_ble_eq_true rfl, Nat.le_of_ble_eq_true rfl⟩ ⟨(show ce + 1 + 0 ≤ 641004 by omega), (show sl + 6 + 0 ≤ 7173092 by omega)⟩ (fun v2 h2 n2 p2 hn2 => ?_) (fun E h9 n9 p9 _ => by obtain ⟨e9, -⟩ := p9; cases e9)
    have hv2 : v2 = some (.double (FP.dconst0)) := by have e9 := p2.1; rw [hx9] at e9; exact Sum.inl.inj e9
    obtain ⟨own2, I2, pf2, pg2⟩ := I.B hn1 pH hf1 pf (k_chance hσ (xs (i + 1)) (xs (i + 2))) p2
    rw [hx9] at I2
    have I3 : LInv G own2 h2 n2 q (c + 1) _ (nI 2) := I2
    subst hv2
    obtain ⟨s3, hm3⟩ := I3.1.2.2.1
    refine aw_dstore (L' := [(7, .double (FP.dconst0)), (6, .int (nI (2))), (0, .ref (b)), (1, .ref (q)), (2, .ref (q + 204)), (3, .ref (q + 207)), (4, .ref (q + 208)), (5, .int (nI (i)))]) dL_law_974 (by decide) rfl ?_
    refine aw_aload_n dL_law_976 rfl ?_
    refine aw_callVR (As := []) (rest := []) (c_X9_thrown G hm3) kX9_thrown w_746 hm3 rfl rfl rfl rfl (Nat.le_of_ble_eq_true rfl) dL_law_977 ⟨Nat.le_of_ble_eq_true rfl, Nat.le_of_ble_eq_true rfl⟩ ⟨(show ce + 1 + 0 + 0 ≤ 641004 by omega), (show sl + 6 + 0 + 0 ≤ 7173092 by omega)⟩ ?_
    refine aw_iload dL_law_980 rfl ?_
    refine aw_icmp_eqN (tgt := 987) (by omega) (by omega) dL_law_982 (by decide) (fun cz => ?_) (fun cz => absurd cz (by omega))
    refine aw_iload dL_law_987 rfl ?_
    refine aw_if_neN (tgt := 1024) (by omega) dL_law_989 (by decide) (fun cy => ?_) (fun cy => absurd cy (by omega))
    refine aw_goto (tgt := 1650) dL_law_1024 (by decide) ?_
    refine aw_widen (cells' := ce + 893) (slots' := sl + 10108) (by omega) (by omega) ?_
    refine aw_sub (L' := [(0, .ref (b)), (1, .ref (q)), (2, .ref (q + 204)), (3, .ref (q + 207)), (4, .ref (q + 208)), (5, .int (nI (i)))]) [2, 3, 4, 5, 6, 7] rfl ?_
    exact K _ _ _ _ _ I3
set_option maxHeartbeats 4000000 in
set_option maxRecDepth 20000 in
theorem law_far (G : aG) {b L q i c nx : Nat} {xs : Nat → Int32} {own : Nat → Nat} {h : aH} {σ : aSg} {th : Int32} {ce sl : Nat} (I : LInv G own h nx q c σ th) (hc9 : c ≤ 511) (hi : i + 5 ≤ L) (hL : L ≤ 2560) (hG : G.2.2.2 < q) (hce : ce + 893 ≤ 641004) (hsl : sl + 10108 ≤ 7173092) (K : ∀ (own1 : Nat → Nat) (h1 : aH) (nx1 : Nat) (σ1 : aSg) (th1 : Int32), LInv G own1 h1 nx1 q (c + 1) σ1 th1 → aw G mL_law [] room_1 (lawQ G b L xs) (ce + 893) (sl + 10108) h1 nx1 1650 [(0, .ref (b)), (1, .ref (q)), (2, .ref (q + 204)), (3, .ref (q + 207)), (4, .ref (q + 208)), (5, .int (nI (i)))] []) : aw G mL_law [] room_1 (lawQ G b L xs) ce sl h nx 1027 [(0, .ref (b)), (1, .ref (q)), (2, .ref (q + 204)), (3, .ref (q + 207)), (4, .ref (q + 208)), (5, .int (nI (i)))] [] := by
  have I0 := I
  obtain ⟨hM, hH, hσ, hO1, ⟨hO2, hO3⟩, ⟨f0, hf0⟩, ⟨g0, hg0⟩, hnx⟩ := I0
  rcases o_far σ (xs (i + 1)) with ⟨x9, hx9⟩ | hx9
  · skip
    refine aw_aload_n dL_law_1027 rfl ?_
    refine aw_aload_n dL_law_1028 rfl ?_
    refine aw_iload dL_law_1029 rfl ?_
    refine aw_ic dL_law_1031 ic_1 ?_
    refine aw_iaddN dL_law_1032 ?_
    refine aw_sld (by omega) hL dL_law_1033 ?_
    refine aw_aload dL_law_1034 rfl ?_
    refine aw_callH (As := [.ref (q), .int (xs (i + 1)), .ref (q + 208)]) (rest := []) (l_far G hH hσ (by omega) (Or.inr (by omega)) hg0 (xs (i + 1))) kL_far w_650 rfl rfl (Nat.le_of_ble_eq_true rfl) dL_law_1036 ⟨Nat.le_of_ble_eq_true rfl, Nat.le_of_ble_eq_true rfl⟩ ⟨(show ce + 1 ≤ 641004 by omega), (show sl + 6 ≤ 7173092 by omega)⟩ (fun v1 h1 n1 p1 hn1 => ?_) (fun E h9 n9 p9 _ => by obtain ⟨e9, -⟩ := p9; cases e9)
    obtain ⟨pv1, -, pH, po, f1, pf, pval⟩ := p1
    have hv1 : v1 = some (.int (nI 0)) := by have e9 := pv1; rw [hx9] at e9; exact Sum.inl.inj e9
    subst hv1
    have hf1 := (po (q + 207) (Or.inr (by omega)) (by omega)).trans hf0
    have hM1 := I.A hn1 (fun b z1 z2 z3 => po b z1 z3)
    obtain ⟨s1, hm1⟩ := hM1.2.2.1
    refine aw_istore (L' := [(6, .int (nI (0))), (0, .ref (b)), (1, .ref (q)), (2, .ref (q + 204)), (3, .ref (q + 207)), (4, .ref (q + 208)), (5, .int (nI (i)))]) dL_law_1039 (by decide) rfl ?_
    refine aw_aload_n dL_law_1041 rfl ?_
    refine aw_aload_n dL_law_1042 rfl ?_
    refine aw_iload dL_law_1043 rfl ?_
    refine aw_ic dL_law_1045 ic_1 ?_
    refine aw_iaddN dL_law_1046 ?_
    refine aw_sld (by omega) hL dL_law_1047 ?_
    refine aw_callV (As := [.int (xs (i + 1))]) (rest := []) (m_X9_far G hM1 hσ (by omega) (xs (i + 1))) kX9_far w_1103 hm1 rfl rfl rfl rfl (Nat.le_of_ble_eq_true rfl) dL_law_1048 ⟨Nat.le_of_ble_eq_true rfl, Nat.le_of_ble_eq_true rfl⟩ ⟨(show ce + 1 + 0 ≤ 641004 by omega), (show sl + 6 + 0 ≤ 7173092 by omega)⟩ (fun v2 h2 n2 p2 hn2 => ?_) (fun E h9 n9 p9 _ => by obtain ⟨e9, -⟩ := p9; cases e9)
    have hv2 : v2 = some (.double (x9)) := by have e9 := p2.1; rw [hx9] at e9; exact Sum.inl.inj e9
    obtain ⟨own2, I2, pf2, pg2⟩ := I.B hn1 pH hf1 pf (k_far hσ (xs (i + 1))) p2
    rw [hx9] at I2
    have I3 : LInv G own2 h2 n2 q (c + 1) _ (nI 0) := I2
    subst hv2
    obtain ⟨s3, hm3⟩ := I3.1.2.2.1
    refine aw_dstore (L' := [(7, .double (x9)), (6, .int (nI (0))), (0, .ref (b)), (1, .ref (q)), (2, .ref (q + 204)), (3, .ref (q + 207)), (4, .ref (q + 208)), (5, .int (nI (i)))]) dL_law_1051 (by decide) rfl ?_
    refine aw_aload_n dL_law_1053 rfl ?_
    refine aw_callVR (As := []) (rest := []) (c_X9_thrown G hm3) kX9_thrown w_746 hm3 rfl rfl rfl rfl (Nat.le_of_ble_eq_true rfl) dL_law_1054 ⟨Nat.le_of_ble_eq_true rfl, Nat.le_of_ble_eq_true rfl⟩ ⟨(show ce + 1 + 0 + 0 ≤ 641004 by omega), (show sl + 6 + 0 + 0 ≤ 7173092 by omega)⟩ ?_
    refine aw_iload dL_law_1057 rfl ?_
    refine aw_icmp_eqN (tgt := 1064) (by omega) (by omega) dL_law_1059 (by decide) (fun cz => ?_) (fun cz => absurd cz (by omega))
    refine aw_iload dL_law_1064 rfl ?_
    refine aw_if_neN (tgt := 1101) (by omega) dL_law_1066 (by decide) (fun cy => absurd cy (by omega)) (fun cy => ?_)
    have hfx := pval x9 hx9
    obtain ⟨v9, hv9⟩ : ∃ v9, v9 = Op.cmpValue (FP.dcmp x9 x9) CmpOp.l := ⟨_, rfl⟩
    refine aw_aload dL_law_1069 rfl ?_
    refine aw_ic dL_law_1071 ic_0 ?_
    refine aw_daload pg2 (by omega) (by omega) dL_law_1072 ?_
    refine aw_dload dL_law_1073 rfl ?_
    rw [hfx]
    refine aw_dcmp dL_law_1075 ?_
    rw [← hv9]
    refine aw_if_eq (tgt := 1101) dL_law_1076 (by decide) (fun cv => ?_) (fun cv => ?_)
    · skip
      refine aw_goto (tgt := 1650) dL_law_1101 (by decide) ?_
      refine aw_widen (cells' := ce + 893) (slots' := sl + 10108) (by omega) (by omega) ?_
      refine aw_sub (L' := [(0, .ref (b)), (1, .ref (q)), (2, .ref (q + 204)), (3, .ref (q + 207)), (4, .ref (q + 208)), (5, .int (nI (i)))]) [2, 3, 4, 5, 6, 7] rfl ?_
      exact K _ _ _ _ _ I3
    · skip
      refine aw_aload dL_law_1079 rfl ?_
      refine aw_ic dL_law_1081 ic_0 ?_
      refine aw_daload pg2 (by omega) (by omega) dL_law_1082 ?_
      refine aw_aload dL_law_1083 rfl ?_
      refine aw_ic dL_law_1085 ic_0 ?_
      refine aw_daload pg2 (by omega) (by omega) dL_law_1086 ?_
      rw [hfx]
      refine aw_dcmp dL_law_1087 ?_
      rw [← hv9]
      refine aw_if_eq (tgt := 1099) dL_law_1088 (by decide) (fun c2 => absurd c2 (cv)) (fun c2 => ?_)
      refine aw_dload dL_law_1091 rfl ?_
      refine aw_dload dL_law_1093 rfl ?_
      refine aw_dcmp dL_law_1095 ?_
      rw [← hv9]
      refine aw_if_ne (tgt := 1101) dL_law_1096 (by decide) (fun c3 => ?_) (fun c3 => absurd c3 (cv))
      refine aw_goto (tgt := 1650) dL_law_1101 (by decide) ?_
      refine aw_widen (cells' := ce + 893) (slots' := sl + 10108) (by omega) (by omega) ?_
      refine aw_sub (L' := [(0, .ref (b)), (1, .ref (q)), (2, .ref (q + 204)), (3, .ref (q + 207)), (4, .ref (q + 208)), (5, .int (nI (i)))]) [2, 3, 4, 5, 6, 7] rfl ?_
      exact K _ _ _ _ _ I3
  · skip
    refine aw_aload_n dL_law_1027 rfl ?_
    refine aw_aload_n dL_law_1028 rfl ?_
    refine aw_iload dL_law_1029 rfl ?_
    refine aw_ic dL_law_1031 ic_1 ?_
    refine aw_iaddN dL_law_1032 ?_
    refine aw_sld (by omega) hL dL_law_1033 ?_
    refine aw_aload dL_law_1034 rfl ?_
    refine aw_callH (As := [.ref (q), .int (xs (i + 1)), .ref (q + 208)]) (rest := []) (l_far G hH hσ (by omega) (Or.inr (by omega)) hg0 (xs (i + 1))) kL_far w_650 rfl rfl (Nat.le_of_ble_eq_true rfl) dL_law_1036 ⟨Nat.le_of_ble_eq_true rfl, Nat.le_of_ble_eq_true rfl⟩ ⟨(show ce + 1 ≤ 641004 by omega), (show sl + 6 ≤ 7173092 by omega)⟩ (fun v1 h1 n1 p1 hn1 => ?_) (fun E h9 n9 p9 _ => by obtain ⟨e9, -⟩ := p9; cases e9)
    obtain ⟨pv1, -, pH, po, f1, pf, pval⟩ := p1
    have hv1 : v1 = some (.int (nI 1)) := by have e9 := pv1; rw [hx9] at e9; exact Sum.inl.inj e9
    subst hv1
    have hf1 := (po (q + 207) (Or.inr (by omega)) (by omega)).trans hf0
    have hM1 := I.A hn1 (fun b z1 z2 z3 => po b z1 z3)
    obtain ⟨s1, hm1⟩ := hM1.2.2.1
    refine aw_istore (L' := [(6, .int (nI (1))), (0, .ref (b)), (1, .ref (q)), (2, .ref (q + 204)), (3, .ref (q + 207)), (4, .ref (q + 208)), (5, .int (nI (i)))]) dL_law_1039 (by decide) rfl ?_
    refine aw_aload_n dL_law_1041 rfl ?_
    refine aw_aload_n dL_law_1042 rfl ?_
    refine aw_iload dL_law_1043 rfl ?_
    refine aw_ic dL_law_1045 ic_1 ?_
    refine aw_iaddN dL_law_1046 ?_
    refine aw_sld (by omega) hL dL_law_1047 ?_
    refine aw_callV (As := [.int (xs (i + 1))]) (rest := []) (m_X9_far G hM1 hσ (by omega) (xs (i + 1))) kX9_far w_1103 hm1 rfl rfl rfl rfl (Nat.le_of_ble_eq_true rfl) dL_law_1048 ⟨Nat.le_of_ble_eq_true rfl, Nat.le_of_ble_eq_true rfl⟩ ⟨(show ce + 1 + 0 ≤ 641004 by omega), (show sl + 6 + 0 ≤ 7173092 by omega)⟩ (fun v2 h2 n2 p2 hn2 => ?_) (fun E h9 n9 p9 _ => by obtain ⟨e9, -⟩ := p9; cases e9)
    have hv2 : v2 = some (.double (FP.dconst0)) := by have e9 := p2.1; rw [hx9] at e9; exact Sum.inl.inj e9
    obtain ⟨own2, I2, pf2, pg2⟩ := I.B hn1 pH hf1 pf (k_far hσ (xs (i + 1))) p2
    rw [hx9] at I2
    have I3 : LInv G own2 h2 n2 q (c + 1) _ (nI 1) := I2
    subst hv2
    obtain ⟨s3, hm3⟩ := I3.1.2.2.1
    refine aw_dstore (L' := [(7, .double (FP.dconst0)), (6, .int (nI (1))), (0, .ref (b)), (1, .ref (q)), (2, .ref (q + 204)), (3, .ref (q + 207)), (4, .ref (q + 208)), (5, .int (nI (i)))]) dL_law_1051 (by decide) rfl ?_
    refine aw_aload_n dL_law_1053 rfl ?_
    refine aw_callVR (As := []) (rest := []) (c_X9_thrown G hm3) kX9_thrown w_746 hm3 rfl rfl rfl rfl (Nat.le_of_ble_eq_true rfl) dL_law_1054 ⟨Nat.le_of_ble_eq_true rfl, Nat.le_of_ble_eq_true rfl⟩ ⟨(show ce + 1 + 0 + 0 ≤ 641004 by omega), (show sl + 6 + 0 + 0 ≤ 7173092 by omega)⟩ ?_
    refine aw_iload dL_law_1057 rfl ?_
    refine aw_icmp_eqN (tgt := 1064) (by omega) (by omega) dL_law_1059 (by decide) (fun cz => ?_) (fun cz => absurd cz (by omega))
    refine aw_iload dL_law_1064 rfl ?_
    refine aw_if_neN (tgt := 1101) (by omega) dL_law_1066 (by decide) (fun cy => ?_) (fun cy => absurd cy (by omega))
    refine aw_goto (tgt := 1650) dL_law_1101 (by decide) ?_
    refine aw_widen (cells' := ce + 893) (slots' := sl + 10108) (by omega) (by omega) ?_
    refine aw_sub (L' := [(0, .ref (b)), (1, .ref (q)), (2, .ref (q + 204)), (3, .ref (q + 207)), (4, .ref (q + 208)), (5, .int (nI (i)))]) [2, 3, 4, 5, 6, 7] rfl ?_
    exact K _ _ _ _ _ I3
set_option maxHeartbeats 4000000 in
set_option maxRecDepth 20000 in
theorem law_alike (G : aG) {b L q i c nx : Nat} {xs : Nat → Int32} {own : Nat → Nat} {h : aH} {σ : aSg} {th : Int32} {ce sl : Nat} (I : LInv G own h nx q c σ th) (hc9 : c ≤ 511) (hi : i + 5 ≤ L) (hL : L ≤ 2560) (hG : G.2.2.2 < q) (hce : ce + 893 ≤ 641004) (hsl : sl + 10108 ≤ 7173092) (K : ∀ (own1 : Nat → Nat) (h1 : aH) (nx1 : Nat) (σ1 : aSg) (th1 : Int32), LInv G own1 h1 nx1 q (c + 1) σ1 th1 → aw G mL_law [] room_1 (lawQ G b L xs) (ce + 893) (sl + 10108) h1 nx1 1650 [(0, .ref (b)), (1, .ref (q)), (2, .ref (q + 204)), (3, .ref (q + 207)), (4, .ref (q + 208)), (5, .int (nI (i)))] []) : aw G mL_law [] room_1 (lawQ G b L xs) ce sl h nx 1104 [(0, .ref (b)), (1, .ref (q)), (2, .ref (q + 204)), (3, .ref (q + 207)), (4, .ref (q + 208)), (5, .int (nI (i)))] [] := by
  have I0 := I
  obtain ⟨hM, hH, hσ, hO1, ⟨hO2, hO3⟩, ⟨f0, hf0⟩, ⟨g0, hg0⟩, hnx⟩ := I0
  rcases o_alike σ (xs (i + 1)) (xs (i + 2)) with ⟨x9, hx9⟩ | hx9
  · skip
    refine aw_aload_n dL_law_1104 rfl ?_
    refine aw_aload_n dL_law_1105 rfl ?_
    refine aw_iload dL_law_1106 rfl ?_
    refine aw_ic dL_law_1108 ic_1 ?_
    refine aw_iaddN dL_law_1109 ?_
    refine aw_sld (by omega) hL dL_law_1110 ?_
    refine aw_aload_n dL_law_1111 rfl ?_
    refine aw_iload dL_law_1112 rfl ?_
    refine aw_ic dL_law_1114 ic_2 ?_
    refine aw_iaddN dL_law_1115 ?_
    refine aw_sld (by omega) hL dL_law_1116 ?_
    refine aw_aload_n dL_law_1117 rfl ?_
    refine aw_callH (As := [.ref (q), .int (xs (i + 1)), .int (xs (i + 2)), .ref (q + 207)]) (rest := []) (l_alike G hH hσ (by omega) (Or.inr (by omega)) hf0 (xs (i + 1)) (xs (i + 2))) kL_alike w_660 rfl rfl (Nat.le_of_ble_eq_true rfl) dL_law_1118 ⟨Nat.le_of_ble_eq_true rfl, Nat.le_of_ble_eq_true rfl⟩ ⟨(show ce + 1 ≤ 641004 by omega), (show sl + 6 ≤ 7173092 by omega)⟩ (fun v1 h1 n1 p1 hn1 => ?_) (fun E h9 n9 p9 _ => by obtain ⟨e9, -⟩ := p9; cases e9)
    obtain ⟨pv1, -, pH, po, f1, pf, pval⟩ := p1
    have hv1 : v1 = some (.int (nI 0)) := by have e9 := pv1; rw [hx9] at e9; exact Sum.inl.inj e9
    subst hv1
    have hg1 := (po (q + 208) (Or.inr (by omega)) (by omega)).trans hg0
    have hM1 := I.A hn1 (fun b z1 z2 z3 => po b z1 z2)
    obtain ⟨s1, hm1⟩ := hM1.2.2.1
    refine aw_istore (L' := [(6, .int (nI (0))), (0, .ref (b)), (1, .ref (q)), (2, .ref (q + 204)), (3, .ref (q + 207)), (4, .ref (q + 208)), (5, .int (nI (i)))]) dL_law_1121 (by decide) rfl ?_
    refine aw_aload_n dL_law_1123 rfl ?_
    refine aw_aload_n dL_law_1124 rfl ?_
    refine aw_iload dL_law_1125 rfl ?_
    refine aw_ic dL_law_1127 ic_1 ?_
    refine aw_iaddN dL_law_1128 ?_
    refine aw_sld (by omega) hL dL_law_1129 ?_
    refine aw_aload_n dL_law_1130 rfl ?_
    refine aw_iload dL_law_1131 rfl ?_
    refine aw_ic dL_law_1133 ic_2 ?_
    refine aw_iaddN dL_law_1134 ?_
    refine aw_sld (by omega) hL dL_law_1135 ?_
    refine aw_callV (As := [.int (xs (i + 1)), .int (xs (i + 2))]) (rest := []) (m_X9_alike G hM1 hσ (by omega) (xs (i + 1)) (xs (i + 2))) kX9_alike w_1108 hm1 rfl rfl rfl rfl (Nat.le_of_ble_eq_true rfl) dL_law_1136 ⟨Nat.le_of_ble_eq_true rfl, Nat.le_of_ble_eq_true rfl⟩ ⟨(show ce + 1 + 0 ≤ 641004 by omega), (show sl + 6 + 0 ≤ 7173092 by omega)⟩ (fun v2 h2 n2 p2 hn2 => ?_) (fun E h9 n9 p9 _ => by obtain ⟨e9, -⟩ := p9; cases e9)
    have hv2 : v2 = some (.int (x9)) := by have e9 := p2.1; rw [hx9] at e9; exact Sum.inl.inj e9
    obtain ⟨own2, I2, pf2, pg2⟩ := I.B hn1 pH pf hg1 (k_alike hσ (xs (i + 1)) (xs (i + 2))) p2
    rw [hx9] at I2
    have I3 : LInv G own2 h2 n2 q (c + 1) _ (nI 0) := I2
    subst hv2
    obtain ⟨s3, hm3⟩ := I3.1.2.2.1
    refine aw_istore (L' := [(7, .int (x9)), (6, .int (nI (0))), (0, .ref (b)), (1, .ref (q)), (2, .ref (q + 204)), (3, .ref (q + 207)), (4, .ref (q + 208)), (5, .int (nI (i)))]) dL_law_1139 (by decide) rfl ?_
    refine aw_aload_n dL_law_1141 rfl ?_
    refine aw_callVR (As := []) (rest := []) (c_X9_thrown G hm3) kX9_thrown w_746 hm3 rfl rfl rfl rfl (Nat.le_of_ble_eq_true rfl) dL_law_1142 ⟨Nat.le_of_ble_eq_true rfl, Nat.le_of_ble_eq_true rfl⟩ ⟨(show ce + 1 + 0 + 0 ≤ 641004 by omega), (show sl + 6 + 0 + 0 ≤ 7173092 by omega)⟩ ?_
    refine aw_iload dL_law_1145 rfl ?_
    refine aw_icmp_eqN (tgt := 1152) (by omega) (by omega) dL_law_1147 (by decide) (fun cz => ?_) (fun cz => absurd cz (by omega))
    refine aw_iload dL_law_1152 rfl ?_
    refine aw_if_neN (tgt := 1169) (by omega) dL_law_1154 (by decide) (fun cy => absurd cy (by omega)) (fun cy => ?_)
    refine aw_aload_n dL_law_1157 rfl ?_
    refine aw_ic dL_law_1158 ic_0 ?_
    refine aw_laload pf2 (by omega) (by omega) dL_law_1159 ?_
    refine aw_iload dL_law_1160 rfl ?_
    refine aw_i2l dL_law_1162 ?_
    refine aw_lcmp dL_law_1163 ?_
    refine aw_top (show (lg_cmp (f1 0) ((x9)).toInt64) = (nI (0)) from (by rw [pval x9 hx9]; exact lg_self _)) ?_
    refine aw_if_eqN (tgt := 1169) (by omega) dL_law_1164 (by decide) (fun cx => ?_) (fun cx => absurd cx (by omega))
    refine aw_goto (tgt := 1650) dL_law_1169 (by decide) ?_
    refine aw_widen (cells' := ce + 893) (slots' := sl + 10108) (by omega) (by omega) ?_
    refine aw_sub (L' := [(0, .ref (b)), (1, .ref (q)), (2, .ref (q + 204)), (3, .ref (q + 207)), (4, .ref (q + 208)), (5, .int (nI (i)))]) [2, 3, 4, 5, 6, 7] rfl ?_
    exact K _ _ _ _ _ I3
  · skip
    refine aw_aload_n dL_law_1104 rfl ?_
    refine aw_aload_n dL_law_1105 rfl ?_
    refine aw_iload dL_law_1106 rfl ?_
    refine aw_ic dL_law_1108 ic_1 ?_
    refine aw_iaddN dL_law_1109 ?_
    refine aw_sld (by omega) hL dL_law_1110 ?_
    refine aw_aload_n dL_law_1111 rfl ?_
    refine aw_iload dL_law_1112 rfl ?_
    refine aw_ic dL_law_1114 ic_2 ?_
    refine aw_iaddN dL_law_1115 ?_
    refine aw_sld (by omega) hL dL_law_1116 ?_
    refine aw_aload_n dL_law_1117 rfl ?_
    refine aw_callH (As := [.ref (q), .int (xs (i + 1)), .int (xs (i + 2)), .ref (q + 207)]) (rest := []) (l_alike G hH hσ (by omega) (Or.inr (by omega)) hf0 (xs (i + 1)) (xs (i + 2))) kL_alike w_660 rfl rfl (Nat.le_of_ble_eq_true rfl) dL_law_1118 ⟨Nat.le_of_ble_eq_true rfl, Nat.le_of_ble_eq_true rfl⟩ ⟨(show ce + 1 ≤ 641004 by omega), (show sl + 6 ≤ 7173092 by omega)⟩ (fun v1 h1 n1 p1 hn1 => ?_) (fun E h9 n9 p9 _ => by obtain ⟨e9, -⟩ := p9; cases e9)
    obtain ⟨pv1, -, pH, po, f1, pf, pval⟩ := p1
    have hv1 : v1 = some (.int (nI 1)) := by have e9 := pv1; rw [hx9] at e9; exact Sum.inl.inj e9
    subst hv1
    have hg1 := (po (q + 208) (Or.inr (by omega)) (by omega)).trans hg0
    have hM1 := I.A hn1 (fun b z1 z2 z3 => po b z1 z2)
    obtain ⟨s1, hm1⟩ := hM1.2.2.1
    refine aw_istore (L' := [(6, .int (nI (1))), (0, .ref (b)), (1, .ref (q)), (2, .ref (q + 204)), (3, .ref (q + 207)), (4, .ref (q + 208)), (5, .int (nI (i)))]) dL_law_1121 (by decide) rfl ?_
    refine aw_aload_n dL_law_1123 rfl ?_
    refine aw_aload_n dL_law_1124 rfl ?_
    refine aw_iload dL_law_1125 rfl ?_
    refine aw_ic dL_law_1127 ic_1 ?_
    refine aw_iaddN dL_law_1128 ?_
    refine aw_sld (by omega) hL dL_law_1129 ?_
    refine aw_aload_n dL_law_1130 rfl ?_
    refine aw_iload dL_law_1131 rfl ?_
    refine aw_ic dL_law_1133 ic_2 ?_
    refine aw_iaddN dL_law_1134 ?_
    refine aw_sld (by omega) hL dL_law_1135 ?_
    refine aw_callV (As := [.int (xs (i + 1)), .int (xs (i + 2))]) (rest := []) (m_X9_alike G hM1 hσ (by omega) (xs (i + 1)) (xs (i + 2))) kX9_alike w_1108 hm1 rfl rfl rfl rfl (Nat.le_of_ble_eq_true rfl) dL_law_1136 ⟨Nat.le_of_ble_eq_true rfl, Nat.le_of_ble_eq_true rfl⟩ ⟨(show ce + 1 + 0 ≤ 641004 by omega), (show sl + 6 + 0 ≤ 7173092 by omega)⟩ (fun v2 h2 n2 p2 hn2 => ?_) (fun E h9 n9 p9 _ => by obtain ⟨e9, -⟩ := p9; cases e9)
    have hv2 : v2 = some (.int (nI (0))) := by have e9 := p2.1; rw [hx9] at e9; exact Sum.inl.inj e9
    obtain ⟨own2, I2, pf2, pg2⟩ := I.B hn1 pH pf hg1 (k_alike hσ (xs (i + 1)) (xs (i + 2))) p2
    rw [hx9] at I2
    have I3 : LInv G own2 h2 n2 q (c + 1) _ (nI 1) := I2
    subst hv2
    obtain ⟨s3, hm3⟩ := I3.1.2.2.1
    refine aw_istore (L' := [(7, .int (nI (0))), (6, .int (nI (1))), (0, .ref (b)), (1, .ref (q)), (2, .ref (q + 204)), (3, .ref (q + 207)), (4, .ref (q + 208)), (5, .int (nI (i)))]) dL_law_1139 (by decide) rfl ?_
    refine aw_aload_n dL_law_1141 rfl ?_
    refine aw_callVR (As := []) (rest := []) (c_X9_thrown G hm3) kX9_thrown w_746 hm3 rfl rfl rfl rfl (Nat.le_of_ble_eq_true rfl) dL_law_1142 ⟨Nat.le_of_ble_eq_true rfl, Nat.le_of_ble_eq_true rfl⟩ ⟨(show ce + 1 + 0 + 0 ≤ 641004 by omega), (show sl + 6 + 0 + 0 ≤ 7173092 by omega)⟩ ?_
    refine aw_iload dL_law_1145 rfl ?_
    refine aw_icmp_eqN (tgt := 1152) (by omega) (by omega) dL_law_1147 (by decide) (fun cz => ?_) (fun cz => absurd cz (by omega))
    refine aw_iload dL_law_1152 rfl ?_
    refine aw_if_neN (tgt := 1169) (by omega) dL_law_1154 (by decide) (fun cy => ?_) (fun cy => absurd cy (by omega))
    refine aw_goto (tgt := 1650) dL_law_1169 (by decide) ?_
    refine aw_widen (cells' := ce + 893) (slots' := sl + 10108) (by omega) (by omega) ?_
    refine aw_sub (L' := [(0, .ref (b)), (1, .ref (q)), (2, .ref (q + 204)), (3, .ref (q + 207)), (4, .ref (q + 208)), (5, .int (nI (i)))]) [2, 3, 4, 5, 6, 7] rfl ?_
    exact K _ _ _ _ _ I3
set_option maxHeartbeats 4000000 in
set_option maxRecDepth 20000 in
theorem law_ofSequence (G : aG) {b L q i c nx : Nat} {xs : Nat → Int32} {own : Nat → Nat} {h : aH} {σ : aSg} {th : Int32} {ce sl : Nat} (I : LInv G own h nx q c σ th) (hc9 : c ≤ 511) (hi : i + 5 ≤ L) (hL : L ≤ 2560) (hG : G.2.2.2 < q) (hce : ce + 893 ≤ 641004) (hsl : sl + 10108 ≤ 7173092) (K : ∀ (own1 : Nat → Nat) (h1 : aH) (nx1 : Nat) (σ1 : aSg) (th1 : Int32), LInv G own1 h1 nx1 q (c + 1) σ1 th1 → aw G mL_law [] room_1 (lawQ G b L xs) (ce + 893) (sl + 10108) h1 nx1 1650 [(0, .ref (b)), (1, .ref (q)), (2, .ref (q + 204)), (3, .ref (q + 207)), (4, .ref (q + 208)), (5, .int (nI (i)))] []) : aw G mL_law [] room_1 (lawQ G b L xs) ce sl h nx 1172 [(0, .ref (b)), (1, .ref (q)), (2, .ref (q + 204)), (3, .ref (q + 207)), (4, .ref (q + 208)), (5, .int (nI (i)))] [] := by
  have I0 := I
  obtain ⟨hM, hH, hσ, hO1, ⟨hO2, hO3⟩, ⟨f0, hf0⟩, ⟨g0, hg0⟩, hnx⟩ := I0
  rcases o_ofSequence σ (xs (i + 1)) (xs (i + 2)) with ⟨x9, hx9⟩ | hx9 | hx9
  · skip
    refine aw_aload_n dL_law_1172 rfl ?_
    refine aw_aload_n dL_law_1173 rfl ?_
    refine aw_iload dL_law_1174 rfl ?_
    refine aw_ic dL_law_1176 ic_1 ?_
    refine aw_iaddN dL_law_1177 ?_
    refine aw_sld (by omega) hL dL_law_1178 ?_
    refine aw_aload_n dL_law_1179 rfl ?_
    refine aw_iload dL_law_1180 rfl ?_
    refine aw_ic dL_law_1182 ic_2 ?_
    refine aw_iaddN dL_law_1183 ?_
    refine aw_sld (by omega) hL dL_law_1184 ?_
    refine aw_aload_n dL_law_1185 rfl ?_
    refine aw_callH (As := [.ref (q), .int (xs (i + 1)), .int (xs (i + 2)), .ref (q + 207)]) (rest := []) (l_ofSequence G hH hσ (by omega) (Or.inr (by omega)) hf0 (xs (i + 1)) (xs (i + 2))) kL_ofSequence w_664 rfl rfl (Nat.le_of_ble_eq_true rfl) dL_law_1186 ⟨Nat.le_of_ble_eq_true rfl, Nat.le_of_ble_eq_true rfl⟩ ⟨(show ce + 1 ≤ 641004 by omega), (show sl + 6 ≤ 7173092 by omega)⟩ (fun v1 h1 n1 p1 hn1 => ?_) (fun E h9 n9 p9 _ => by obtain ⟨e9, -⟩ := p9; cases e9)
    obtain ⟨pv1, -, pH, po, f1, pf, pval⟩ := p1
    have hv1 : v1 = some (.int (nI 0)) := by have e9 := pv1; rw [hx9] at e9; exact Sum.inl.inj e9
    subst hv1
    have hg1 := (po (q + 208) (Or.inr (by omega)) (by omega)).trans hg0
    have hM1 := I.A hn1 (fun b z1 z2 z3 => po b z1 z2)
    obtain ⟨s1, hm1⟩ := hM1.2.2.1
    refine aw_istore (L' := [(6, .int (nI (0))), (0, .ref (b)), (1, .ref (q)), (2, .ref (q + 204)), (3, .ref (q + 207)), (4, .ref (q + 208)), (5, .int (nI (i)))]) dL_law_1189 (by decide) rfl ?_
    refine aw_aload_n dL_law_1191 rfl ?_
    refine aw_aload_n dL_law_1192 rfl ?_
    refine aw_iload dL_law_1193 rfl ?_
    refine aw_ic dL_law_1195 ic_1 ?_
    refine aw_iaddN dL_law_1196 ?_
    refine aw_sld (by omega) hL dL_law_1197 ?_
    refine aw_aload_n dL_law_1198 rfl ?_
    refine aw_iload dL_law_1199 rfl ?_
    refine aw_ic dL_law_1201 ic_2 ?_
    refine aw_iaddN dL_law_1202 ?_
    refine aw_sld (by omega) hL dL_law_1203 ?_
    refine aw_callV (As := [.int (xs (i + 1)), .int (xs (i + 2))]) (rest := []) (m_X9_ofSequence G hM1 hσ (by omega) (xs (i + 1)) (xs (i + 2))) kX9_ofSequence w_1115 hm1 rfl rfl rfl rfl (Nat.le_of_ble_eq_true rfl) dL_law_1204 ⟨Nat.le_of_ble_eq_true rfl, Nat.le_of_ble_eq_true rfl⟩ ⟨(show ce + 1 + 0 ≤ 641004 by omega), (show sl + 6 + 0 ≤ 7173092 by omega)⟩ (fun v2 h2 n2 p2 hn2 => ?_) (fun E h9 n9 p9 _ => by obtain ⟨e9, -⟩ := p9; cases e9)
    have hv2 : v2 = some (.int (x9)) := by have e9 := p2.1; rw [hx9] at e9; exact Sum.inl.inj e9
    obtain ⟨own2, I2, pf2, pg2⟩ := I.B hn1 pH pf hg1 (k_ofSequence hσ (xs (i + 1)) (xs (i + 2))) p2
    rw [hx9] at I2
    have I3 : LInv G own2 h2 n2 q (c + 1) _ (nI 0) := I2
    subst hv2
    obtain ⟨s3, hm3⟩ := I3.1.2.2.1
    refine aw_istore (L' := [(7, .int (x9)), (6, .int (nI (0))), (0, .ref (b)), (1, .ref (q)), (2, .ref (q + 204)), (3, .ref (q + 207)), (4, .ref (q + 208)), (5, .int (nI (i)))]) dL_law_1207 (by decide) rfl ?_
    refine aw_aload_n dL_law_1209 rfl ?_
    refine aw_callVR (As := []) (rest := []) (c_X9_thrown G hm3) kX9_thrown w_746 hm3 rfl rfl rfl rfl (Nat.le_of_ble_eq_true rfl) dL_law_1210 ⟨Nat.le_of_ble_eq_true rfl, Nat.le_of_ble_eq_true rfl⟩ ⟨(show ce + 1 + 0 + 0 ≤ 641004 by omega), (show sl + 6 + 0 + 0 ≤ 7173092 by omega)⟩ ?_
    refine aw_iload dL_law_1213 rfl ?_
    refine aw_icmp_eqN (tgt := 1220) (by omega) (by omega) dL_law_1215 (by decide) (fun cz => ?_) (fun cz => absurd cz (by omega))
    refine aw_iload dL_law_1220 rfl ?_
    refine aw_if_neN (tgt := 1237) (by omega) dL_law_1222 (by decide) (fun cy => absurd cy (by omega)) (fun cy => ?_)
    refine aw_aload_n dL_law_1225 rfl ?_
    refine aw_ic dL_law_1226 ic_0 ?_
    refine aw_laload pf2 (by omega) (by omega) dL_law_1227 ?_
    refine aw_iload dL_law_1228 rfl ?_
    refine aw_i2l dL_law_1230 ?_
    refine aw_lcmp dL_law_1231 ?_
    refine aw_top (show (lg_cmp (f1 0) ((x9)).toInt64) = (nI (0)) from (by rw [pval x9 hx9]; exact lg_self _)) ?_
    refine aw_if_eqN (tgt := 1237) (by omega) dL_law_1232 (by decide) (fun cx => ?_) (fun cx => absurd cx (by omega))
    refine aw_goto (tgt := 1650) dL_law_1237 (by decide) ?_
    refine aw_widen (cells' := ce + 893) (slots' := sl + 10108) (by omega) (by omega) ?_
    refine aw_sub (L' := [(0, .ref (b)), (1, .ref (q)), (2, .ref (q + 204)), (3, .ref (q + 207)), (4, .ref (q + 208)), (5, .int (nI (i)))]) [2, 3, 4, 5, 6, 7] rfl ?_
    exact K _ _ _ _ _ I3
  · skip
    refine aw_aload_n dL_law_1172 rfl ?_
    refine aw_aload_n dL_law_1173 rfl ?_
    refine aw_iload dL_law_1174 rfl ?_
    refine aw_ic dL_law_1176 ic_1 ?_
    refine aw_iaddN dL_law_1177 ?_
    refine aw_sld (by omega) hL dL_law_1178 ?_
    refine aw_aload_n dL_law_1179 rfl ?_
    refine aw_iload dL_law_1180 rfl ?_
    refine aw_ic dL_law_1182 ic_2 ?_
    refine aw_iaddN dL_law_1183 ?_
    refine aw_sld (by omega) hL dL_law_1184 ?_
    refine aw_aload_n dL_law_1185 rfl ?_
    refine aw_callH (As := [.ref (q), .int (xs (i + 1)), .int (xs (i + 2)), .ref (q + 207)]) (rest := []) (l_ofSequence G hH hσ (by omega) (Or.inr (by omega)) hf0 (xs (i + 1)) (xs (i + 2))) kL_ofSequence w_664 rfl rfl (Nat.le_of_ble_eq_true rfl) dL_law_1186 ⟨Nat.le_of_ble_eq_true rfl, Nat.le_of_ble_eq_true rfl⟩ ⟨(show ce + 1 ≤ 641004 by omega), (show sl + 6 ≤ 7173092 by omega)⟩ (fun v1 h1 n1 p1 hn1 => ?_) (fun E h9 n9 p9 _ => by obtain ⟨e9, -⟩ := p9; cases e9)
    obtain ⟨pv1, -, pH, po, f1, pf, pval⟩ := p1
    have hv1 : v1 = some (.int (nI 1)) := by have e9 := pv1; rw [hx9] at e9; exact Sum.inl.inj e9
    subst hv1
    have hg1 := (po (q + 208) (Or.inr (by omega)) (by omega)).trans hg0
    have hM1 := I.A hn1 (fun b z1 z2 z3 => po b z1 z2)
    obtain ⟨s1, hm1⟩ := hM1.2.2.1
    refine aw_istore (L' := [(6, .int (nI (1))), (0, .ref (b)), (1, .ref (q)), (2, .ref (q + 204)), (3, .ref (q + 207)), (4, .ref (q + 208)), (5, .int (nI (i)))]) dL_law_1189 (by decide) rfl ?_
    refine aw_aload_n dL_law_1191 rfl ?_
    refine aw_aload_n dL_law_1192 rfl ?_
    refine aw_iload dL_law_1193 rfl ?_
    refine aw_ic dL_law_1195 ic_1 ?_
    refine aw_iaddN dL_law_1196 ?_
    refine aw_sld (by omega) hL dL_law_1197 ?_
    refine aw_aload_n dL_law_1198 rfl ?_
    refine aw_iload dL_law_1199 rfl ?_
    refine aw_ic dL_law_1201 ic_2 ?_
    refine aw_iaddN dL_law_1202 ?_
    refine aw_sld (by omega) hL dL_law_1203 ?_
    refine aw_callV (As := [.int (xs (i + 1)), .int (xs (i + 2))]) (rest := []) (m_X9_ofSequence G hM1 hσ (by omega) (xs (i + 1)) (xs (i + 2))) kX9_ofSequence w_1115 hm1 rfl rfl rfl rfl (Nat.le_of_ble_eq_true rfl) dL_law_1204 ⟨Nat.le_of_ble_eq_true rfl, Nat.le_of_ble_eq_true rfl⟩ ⟨(show ce + 1 + 0 ≤ 641004 by omega), (show sl + 6 + 0 ≤ 7173092 by omega)⟩ (fun v2 h2 n2 p2 hn2 => ?_) (fun E h9 n9 p9 _ => by obtain ⟨e9, -⟩ := p9; cases e9)
    have hv2 : v2 = some (.int (nI (0))) := by have e9 := p2.1; rw [hx9] at e9; exact Sum.inl.inj e9
    obtain ⟨own2, I2, pf2, pg2⟩ := I.B hn1 pH pf hg1 (k_ofSequence hσ (xs (i + 1)) (xs (i + 2))) p2
    rw [hx9] at I2
    have I3 : LInv G own2 h2 n2 q (c + 1) _ (nI 1) := I2
    subst hv2
    obtain ⟨s3, hm3⟩ := I3.1.2.2.1
    refine aw_istore (L' := [(7, .int (nI (0))), (6, .int (nI (1))), (0, .ref (b)), (1, .ref (q)), (2, .ref (q + 204)), (3, .ref (q + 207)), (4, .ref (q + 208)), (5, .int (nI (i)))]) dL_law_1207 (by decide) rfl ?_
    refine aw_aload_n dL_law_1209 rfl ?_
    refine aw_callVR (As := []) (rest := []) (c_X9_thrown G hm3) kX9_thrown w_746 hm3 rfl rfl rfl rfl (Nat.le_of_ble_eq_true rfl) dL_law_1210 ⟨Nat.le_of_ble_eq_true rfl, Nat.le_of_ble_eq_true rfl⟩ ⟨(show ce + 1 + 0 + 0 ≤ 641004 by omega), (show sl + 6 + 0 + 0 ≤ 7173092 by omega)⟩ ?_
    refine aw_iload dL_law_1213 rfl ?_
    refine aw_icmp_eqN (tgt := 1220) (by omega) (by omega) dL_law_1215 (by decide) (fun cz => ?_) (fun cz => absurd cz (by omega))
    refine aw_iload dL_law_1220 rfl ?_
    refine aw_if_neN (tgt := 1237) (by omega) dL_law_1222 (by decide) (fun cy => ?_) (fun cy => absurd cy (by omega))
    refine aw_goto (tgt := 1650) dL_law_1237 (by decide) ?_
    refine aw_widen (cells' := ce + 893) (slots' := sl + 10108) (by omega) (by omega) ?_
    refine aw_sub (L' := [(0, .ref (b)), (1, .ref (q)), (2, .ref (q + 204)), (3, .ref (q + 207)), (4, .ref (q + 208)), (5, .int (nI (i)))]) [2, 3, 4, 5, 6, 7] rfl ?_
    exact K _ _ _ _ _ I3
  · skip
    refine aw_aload_n dL_law_1172 rfl ?_
    refine aw_aload_n dL_law_1173 rfl ?_
    refine aw_iload dL_law_1174 rfl ?_
    refine aw_ic dL_law_1176 ic_1 ?_
    refine aw_iaddN dL_law_1177 ?_
    refine aw_sld (by omega) hL dL_law_1178 ?_
    refine aw_aload_n dL_law_1179 rfl ?_
    refine aw_iload dL_law_1180 rfl ?_
    refine aw_ic dL_law_1182 ic_2 ?_
    refine aw_iaddN dL_law_1183 ?_
    refine aw_sld (by omega) hL dL_law_1184 ?_
    refine aw_aload_n dL_law_1185 rfl ?_
    refine aw_callH (As := [.ref (q), .int (xs (i + 1)), .int (xs (i + 2)), .ref (q + 207)]) (rest := []) (l_ofSequence G hH hσ (by omega) (Or.inr (by omega)) hf0 (xs (i + 1)) (xs (i + 2))) kL_ofSequence w_664 rfl rfl (Nat.le_of_ble_eq_true rfl) dL_law_1186 ⟨Nat.le_of_ble_eq_true rfl, Nat.le_of_ble_eq_true rfl⟩ ⟨(show ce + 1 ≤ 641004 by omega), (show sl + 6 ≤ 7173092 by omega)⟩ (fun v1 h1 n1 p1 hn1 => ?_) (fun E h9 n9 p9 _ => by obtain ⟨e9, -⟩ := p9; cases e9)
    obtain ⟨pv1, -, pH, po, f1, pf, pval⟩ := p1
    have hv1 : v1 = some (.int (nI 2)) := by have e9 := pv1; rw [hx9] at e9; exact Sum.inl.inj e9
    subst hv1
    have hg1 := (po (q + 208) (Or.inr (by omega)) (by omega)).trans hg0
    have hM1 := I.A hn1 (fun b z1 z2 z3 => po b z1 z2)
    obtain ⟨s1, hm1⟩ := hM1.2.2.1
    refine aw_istore (L' := [(6, .int (nI (2))), (0, .ref (b)), (1, .ref (q)), (2, .ref (q + 204)), (3, .ref (q + 207)), (4, .ref (q + 208)), (5, .int (nI (i)))]) dL_law_1189 (by decide) rfl ?_
    refine aw_aload_n dL_law_1191 rfl ?_
    refine aw_aload_n dL_law_1192 rfl ?_
    refine aw_iload dL_law_1193 rfl ?_
    refine aw_ic dL_law_1195 ic_1 ?_
    refine aw_iaddN dL_law_1196 ?_
    refine aw_sld (by omega) hL dL_law_1197 ?_
    refine aw_aload_n dL_law_1198 rfl ?_
    refine aw_iload dL_law_1199 rfl ?_
    refine aw_ic dL_law_1201 ic_2 ?_
    refine aw_iaddN dL_law_1202 ?_
    refine aw_sld (by omega) hL dL_law_1203 ?_
    refine aw_callV (As := [.int (xs (i + 1)), .int (xs (i + 2))]) (rest := []) (m_X9_ofSequence G hM1 hσ (by omega) (xs (i + 1)) (xs (i + 2))) kX9_ofSequence w_1115 hm1 rfl rfl rfl rfl (Nat.le_of_ble_eq_true rfl) dL_law_1204 ⟨Nat.le_of_ble_eq_true rfl, Nat.le_of_ble_eq_true rfl⟩ ⟨(show ce + 1 + 0 ≤ 641004 by omega), (show sl + 6 + 0 ≤ 7173092 by omega)⟩ (fun v2 h2 n2 p2 hn2 => ?_) (fun E h9 n9 p9 _ => by obtain ⟨e9, -⟩ := p9; cases e9)
    have hv2 : v2 = some (.int (nI (0))) := by have e9 := p2.1; rw [hx9] at e9; exact Sum.inl.inj e9
    obtain ⟨own2, I2, pf2, pg2⟩ := I.B hn1 pH pf hg1 (k_ofSequence hσ (xs (i + 1)) (xs (i + 2))) p2
    rw [hx9] at I2
    have I3 : LInv G own2 h2 n2 q (c + 1) _ (nI 2) := I2
    subst hv2
    obtain ⟨s3, hm3⟩ := I3.1.2.2.1
    refine aw_istore (L' := [(7, .int (nI (0))), (6, .int (nI (2))), (0, .ref (b)), (1, .ref (q)), (2, .ref (q + 204)), (3, .ref (q + 207)), (4, .ref (q + 208)), (5, .int (nI (i)))]) dL_law_1207 (by decide) rfl ?_
    refine aw_aload_n dL_law_1209 rfl ?_
    refine aw_callVR (As := []) (rest := []) (c_X9_thrown G hm3) kX9_thrown w_746 hm3 rfl rfl rfl rfl (Nat.le_of_ble_eq_true rfl) dL_law_1210 ⟨Nat.le_of_ble_eq_true rfl, Nat.le_of_ble_eq_true rfl⟩ ⟨(show ce + 1 + 0 + 0 ≤ 641004 by omega), (show sl + 6 + 0 + 0 ≤ 7173092 by omega)⟩ ?_
    refine aw_iload dL_law_1213 rfl ?_
    refine aw_icmp_eqN (tgt := 1220) (by omega) (by omega) dL_law_1215 (by decide) (fun cz => ?_) (fun cz => absurd cz (by omega))
    refine aw_iload dL_law_1220 rfl ?_
    refine aw_if_neN (tgt := 1237) (by omega) dL_law_1222 (by decide) (fun cy => ?_) (fun cy => absurd cy (by omega))
    refine aw_goto (tgt := 1650) dL_law_1237 (by decide) ?_
    refine aw_widen (cells' := ce + 893) (slots' := sl + 10108) (by omega) (by omega) ?_
    refine aw_sub (L' := [(0, .ref (b)), (1, .ref (q)), (2, .ref (q + 204)), (3, .ref (q + 207)), (4, .ref (q + 208)), (5, .int (nI (i)))]) [2, 3, 4, 5, 6, 7] rfl ?_
    exact K _ _ _ _ _ I3
set_option maxHeartbeats 4000000 in
set_option maxRecDepth 20000 in
theorem law_period (G : aG) {b L q i c nx : Nat} {xs : Nat → Int32} {own : Nat → Nat} {h : aH} {σ : aSg} {th : Int32} {ce sl : Nat} (I : LInv G own h nx q c σ th) (hc9 : c ≤ 511) (hi : i + 5 ≤ L) (hL : L ≤ 2560) (hG : G.2.2.2 < q) (hce : ce + 893 ≤ 641004) (hsl : sl + 10108 ≤ 7173092) (K : ∀ (own1 : Nat → Nat) (h1 : aH) (nx1 : Nat) (σ1 : aSg) (th1 : Int32), LInv G own1 h1 nx1 q (c + 1) σ1 th1 → aw G mL_law [] room_1 (lawQ G b L xs) (ce + 893) (sl + 10108) h1 nx1 1650 [(0, .ref (b)), (1, .ref (q)), (2, .ref (q + 204)), (3, .ref (q + 207)), (4, .ref (q + 208)), (5, .int (nI (i)))] []) : aw G mL_law [] room_1 (lawQ G b L xs) ce sl h nx 1240 [(0, .ref (b)), (1, .ref (q)), (2, .ref (q + 204)), (3, .ref (q + 207)), (4, .ref (q + 208)), (5, .int (nI (i)))] [] := by
  have I0 := I
  obtain ⟨hM, hH, hσ, hO1, ⟨hO2, hO3⟩, ⟨f0, hf0⟩, ⟨g0, hg0⟩, hnx⟩ := I0
  rcases o_period σ (xs (i + 1)) (xs (i + 2)) with ⟨x9, hx9⟩ | hx9 | hx9
  · skip
    refine aw_aload_n dL_law_1240 rfl ?_
    refine aw_aload_n dL_law_1241 rfl ?_
    refine aw_iload dL_law_1242 rfl ?_
    refine aw_ic dL_law_1244 ic_1 ?_
    refine aw_iaddN dL_law_1245 ?_
    refine aw_sld (by omega) hL dL_law_1246 ?_
    refine aw_aload_n dL_law_1247 rfl ?_
    refine aw_iload dL_law_1248 rfl ?_
    refine aw_ic dL_law_1250 ic_2 ?_
    refine aw_iaddN dL_law_1251 ?_
    refine aw_sld (by omega) hL dL_law_1252 ?_
    refine aw_aload_n dL_law_1253 rfl ?_
    refine aw_callH (As := [.ref (q), .int (xs (i + 1)), .int (xs (i + 2)), .ref (q + 207)]) (rest := []) (l_period G hH hσ (by omega) (Or.inr (by omega)) hf0 (xs (i + 1)) (xs (i + 2))) kL_period w_668 rfl rfl (Nat.le_of_ble_eq_true rfl) dL_law_1254 ⟨Nat.le_of_ble_eq_true rfl, Nat.le_of_ble_eq_true rfl⟩ ⟨(show ce + 1 ≤ 641004 by omega), (show sl + 6 ≤ 7173092 by omega)⟩ (fun v1 h1 n1 p1 hn1 => ?_) (fun E h9 n9 p9 _ => by obtain ⟨e9, -⟩ := p9; cases e9)
    obtain ⟨pv1, -, pH, po, f1, pf, pval⟩ := p1
    have hv1 : v1 = some (.int (nI 0)) := by have e9 := pv1; rw [hx9] at e9; exact Sum.inl.inj e9
    subst hv1
    have hg1 := (po (q + 208) (Or.inr (by omega)) (by omega)).trans hg0
    have hM1 := I.A hn1 (fun b z1 z2 z3 => po b z1 z2)
    obtain ⟨s1, hm1⟩ := hM1.2.2.1
    refine aw_istore (L' := [(6, .int (nI (0))), (0, .ref (b)), (1, .ref (q)), (2, .ref (q + 204)), (3, .ref (q + 207)), (4, .ref (q + 208)), (5, .int (nI (i)))]) dL_law_1257 (by decide) rfl ?_
    refine aw_aload_n dL_law_1259 rfl ?_
    refine aw_aload_n dL_law_1260 rfl ?_
    refine aw_iload dL_law_1261 rfl ?_
    refine aw_ic dL_law_1263 ic_1 ?_
    refine aw_iaddN dL_law_1264 ?_
    refine aw_sld (by omega) hL dL_law_1265 ?_
    refine aw_aload_n dL_law_1266 rfl ?_
    refine aw_iload dL_law_1267 rfl ?_
    refine aw_ic dL_law_1269 ic_2 ?_
    refine aw_iaddN dL_law_1270 ?_
    refine aw_sld (by omega) hL dL_law_1271 ?_
    refine aw_callV (As := [.int (xs (i + 1)), .int (xs (i + 2))]) (rest := []) (m_X9_period G hM1 hσ (by omega) (xs (i + 1)) (xs (i + 2))) kX9_period w_1124 hm1 rfl rfl rfl rfl (Nat.le_of_ble_eq_true rfl) dL_law_1272 ⟨Nat.le_of_ble_eq_true rfl, Nat.le_of_ble_eq_true rfl⟩ ⟨(show ce + 1 + 892 ≤ 641004 by omega), (show sl + 6 + 10102 ≤ 7173092 by omega)⟩ (fun v2 h2 n2 p2 hn2 => ?_) (fun E h9 n9 p9 _ => by obtain ⟨e9, -⟩ := p9; cases e9)
    have hv2 : v2 = some (.int (x9)) := by have e9 := p2.1; rw [hx9] at e9; exact Sum.inl.inj e9
    obtain ⟨own2, I2, pf2, pg2⟩ := I.B hn1 pH pf hg1 (k_period hσ (xs (i + 1)) (xs (i + 2))) p2
    rw [hx9] at I2
    have I3 : LInv G own2 h2 n2 q (c + 1) _ (nI 0) := I2
    subst hv2
    obtain ⟨s3, hm3⟩ := I3.1.2.2.1
    refine aw_istore (L' := [(7, .int (x9)), (6, .int (nI (0))), (0, .ref (b)), (1, .ref (q)), (2, .ref (q + 204)), (3, .ref (q + 207)), (4, .ref (q + 208)), (5, .int (nI (i)))]) dL_law_1275 (by decide) rfl ?_
    refine aw_aload_n dL_law_1277 rfl ?_
    refine aw_callVR (As := []) (rest := []) (c_X9_thrown G hm3) kX9_thrown w_746 hm3 rfl rfl rfl rfl (Nat.le_of_ble_eq_true rfl) dL_law_1278 ⟨Nat.le_of_ble_eq_true rfl, Nat.le_of_ble_eq_true rfl⟩ ⟨(show ce + 1 + 892 + 0 ≤ 641004 by omega), (show sl + 6 + 10102 + 0 ≤ 7173092 by omega)⟩ ?_
    refine aw_iload dL_law_1281 rfl ?_
    refine aw_icmp_eqN (tgt := 1288) (by omega) (by omega) dL_law_1283 (by decide) (fun cz => ?_) (fun cz => absurd cz (by omega))
    refine aw_iload dL_law_1288 rfl ?_
    refine aw_if_neN (tgt := 1305) (by omega) dL_law_1290 (by decide) (fun cy => absurd cy (by omega)) (fun cy => ?_)
    refine aw_aload_n dL_law_1293 rfl ?_
    refine aw_ic dL_law_1294 ic_0 ?_
    refine aw_laload pf2 (by omega) (by omega) dL_law_1295 ?_
    refine aw_iload dL_law_1296 rfl ?_
    refine aw_i2l dL_law_1298 ?_
    refine aw_lcmp dL_law_1299 ?_
    refine aw_top (show (lg_cmp (f1 0) ((x9)).toInt64) = (nI (0)) from (by rw [pval x9 hx9]; exact lg_self _)) ?_
    refine aw_if_eqN (tgt := 1305) (by omega) dL_law_1300 (by decide) (fun cx => ?_) (fun cx => absurd cx (by omega))
    refine aw_goto (tgt := 1650) dL_law_1305 (by decide) ?_
    refine aw_widen (cells' := ce + 893) (slots' := sl + 10108) (by omega) (by omega) ?_
    refine aw_sub (L' := [(0, .ref (b)), (1, .ref (q)), (2, .ref (q + 204)), (3, .ref (q + 207)), (4, .ref (q + 208)), (5, .int (nI (i)))]) [2, 3, 4, 5, 6, 7] rfl ?_
    exact K _ _ _ _ _ I3
  · skip
    refine aw_aload_n dL_law_1240 rfl ?_
    refine aw_aload_n dL_law_1241 rfl ?_
    refine aw_iload dL_law_1242 rfl ?_
    refine aw_ic dL_law_1244 ic_1 ?_
    refine aw_iaddN dL_law_1245 ?_
    refine aw_sld (by omega) hL dL_law_1246 ?_
    refine aw_aload_n dL_law_1247 rfl ?_
    refine aw_iload dL_law_1248 rfl ?_
    refine aw_ic dL_law_1250 ic_2 ?_
    refine aw_iaddN dL_law_1251 ?_
    refine aw_sld (by omega) hL dL_law_1252 ?_
    refine aw_aload_n dL_law_1253 rfl ?_
    refine aw_callH (As := [.ref (q), .int (xs (i + 1)), .int (xs (i + 2)), .ref (q + 207)]) (rest := []) (l_period G hH hσ (by omega) (Or.inr (by omega)) hf0 (xs (i + 1)) (xs (i + 2))) kL_period w_668 rfl rfl (Nat.le_of_ble_eq_true rfl) dL_law_1254 ⟨Nat.le_of_ble_eq_true rfl, Nat.le_of_ble_eq_true rfl⟩ ⟨(show ce + 1 ≤ 641004 by omega), (show sl + 6 ≤ 7173092 by omega)⟩ (fun v1 h1 n1 p1 hn1 => ?_) (fun E h9 n9 p9 _ => by obtain ⟨e9, -⟩ := p9; cases e9)
    obtain ⟨pv1, -, pH, po, f1, pf, pval⟩ := p1
    have hv1 : v1 = some (.int (nI 1)) := by have e9 := pv1; rw [hx9] at e9; exact Sum.inl.inj e9
    subst hv1
    have hg1 := (po (q + 208) (Or.inr (by omega)) (by omega)).trans hg0
    have hM1 := I.A hn1 (fun b z1 z2 z3 => po b z1 z2)
    obtain ⟨s1, hm1⟩ := hM1.2.2.1
    refine aw_istore (L' := [(6, .int (nI (1))), (0, .ref (b)), (1, .ref (q)), (2, .ref (q + 204)), (3, .ref (q + 207)), (4, .ref (q + 208)), (5, .int (nI (i)))]) dL_law_1257 (by decide) rfl ?_
    refine aw_aload_n dL_law_1259 rfl ?_
    refine aw_aload_n dL_law_1260 rfl ?_
    refine aw_iload dL_law_1261 rfl ?_
    refine aw_ic dL_law_1263 ic_1 ?_
    refine aw_iaddN dL_law_1264 ?_
    refine aw_sld (by omega) hL dL_law_1265 ?_
    refine aw_aload_n dL_law_1266 rfl ?_
    refine aw_iload dL_law_1267 rfl ?_
    refine aw_ic dL_law_1269 ic_2 ?_
    refine aw_iaddN dL_law_1270 ?_
    refine aw_sld (by omega) hL dL_law_1271 ?_
    refine aw_callV (As := [.int (xs (i + 1)), .int (xs (i + 2))]) (rest := []) (m_X9_period G hM1 hσ (by omega) (xs (i + 1)) (xs (i + 2))) kX9_period w_1124 hm1 rfl rfl rfl rfl (Nat.le_of_ble_eq_true rfl) dL_law_1272 ⟨Nat.le_of_ble_eq_true rfl, Nat.le_of_ble_eq_true rfl⟩ ⟨(show ce + 1 + 892 ≤ 641004 by omega), (show sl + 6 + 10102 ≤ 7173092 by omega)⟩ (fun v2 h2 n2 p2 hn2 => ?_) (fun E h9 n9 p9 _ => by obtain ⟨e9, -⟩ := p9; cases e9)
    have hv2 : v2 = some (.int (nI (0))) := by have e9 := p2.1; rw [hx9] at e9; exact Sum.inl.inj e9
    obtain ⟨own2, I2, pf2, pg2⟩ := I.B hn1 pH pf hg1 (k_period hσ (xs (i + 1)) (xs (i + 2))) p2
    rw [hx9] at I2
    have I3 : LInv G own2 h2 n2 q (c + 1) _ (nI 1) := I2
    subst hv2
    obtain ⟨s3, hm3⟩ := I3.1.2.2.1
    refine aw_istore (L' := [(7, .int (nI (0))), (6, .int (nI (1))), (0, .ref (b)), (1, .ref (q)), (2, .ref (q + 204)), (3, .ref (q + 207)), (4, .ref (q + 208)), (5, .int (nI (i)))]) dL_law_1275 (by decide) rfl ?_
    refine aw_aload_n dL_law_1277 rfl ?_
    refine aw_callVR (As := []) (rest := []) (c_X9_thrown G hm3) kX9_thrown w_746 hm3 rfl rfl rfl rfl (Nat.le_of_ble_eq_true rfl) dL_law_1278 ⟨Nat.le_of_ble_eq_true rfl, Nat.le_of_ble_eq_true rfl⟩ ⟨(show ce + 1 + 892 + 0 ≤ 641004 by omega), (show sl + 6 + 10102 + 0 ≤ 7173092 by omega)⟩ ?_
    refine aw_iload dL_law_1281 rfl ?_
    refine aw_icmp_eqN (tgt := 1288) (by omega) (by omega) dL_law_1283 (by decide) (fun cz => ?_) (fun cz => absurd cz (by omega))
    refine aw_iload dL_law_1288 rfl ?_
    refine aw_if_neN (tgt := 1305) (by omega) dL_law_1290 (by decide) (fun cy => ?_) (fun cy => absurd cy (by omega))
    refine aw_goto (tgt := 1650) dL_law_1305 (by decide) ?_
    refine aw_widen (cells' := ce + 893) (slots' := sl + 10108) (by omega) (by omega) ?_
    refine aw_sub (L' := [(0, .ref (b)), (1, .ref (q)), (2, .ref (q + 204)), (3, .ref (q + 207)), (4, .ref (q + 208)), (5, .int (nI (i)))]) [2, 3, 4, 5, 6, 7] rfl ?_
    exact K _ _ _ _ _ I3
  · skip
    refine aw_aload_n dL_law_1240 rfl ?_
    refine aw_aload_n dL_law_1241 rfl ?_
    refine aw_iload dL_law_1242 rfl ?_
    refine aw_ic dL_law_1244 ic_1 ?_
    refine aw_iaddN dL_law_1245 ?_
    refine aw_sld (by omega) hL dL_law_1246 ?_
    refine aw_aload_n dL_law_1247 rfl ?_
    refine aw_iload dL_law_1248 rfl ?_
    refine aw_ic dL_law_1250 ic_2 ?_
    refine aw_iaddN dL_law_1251 ?_
    refine aw_sld (by omega) hL dL_law_1252 ?_
    refine aw_aload_n dL_law_1253 rfl ?_
    refine aw_callH (As := [.ref (q), .int (xs (i + 1)), .int (xs (i + 2)), .ref (q + 207)]) (rest := []) (l_period G hH hσ (by omega) (Or.inr (by omega)) hf0 (xs (i + 1)) (xs (i + 2))) kL_period w_668 rfl rfl (Nat.le_of_ble_eq_true rfl) dL_law_1254 ⟨Nat.le_of_ble_eq_true rfl, Nat.le_of_ble_eq_true rfl⟩ ⟨(show ce + 1 ≤ 641004 by omega), (show sl + 6 ≤ 7173092 by omega)⟩ (fun v1 h1 n1 p1 hn1 => ?_) (fun E h9 n9 p9 _ => by obtain ⟨e9, -⟩ := p9; cases e9)
    obtain ⟨pv1, -, pH, po, f1, pf, pval⟩ := p1
    have hv1 : v1 = some (.int (nI 2)) := by have e9 := pv1; rw [hx9] at e9; exact Sum.inl.inj e9
    subst hv1
    have hg1 := (po (q + 208) (Or.inr (by omega)) (by omega)).trans hg0
    have hM1 := I.A hn1 (fun b z1 z2 z3 => po b z1 z2)
    obtain ⟨s1, hm1⟩ := hM1.2.2.1
    refine aw_istore (L' := [(6, .int (nI (2))), (0, .ref (b)), (1, .ref (q)), (2, .ref (q + 204)), (3, .ref (q + 207)), (4, .ref (q + 208)), (5, .int (nI (i)))]) dL_law_1257 (by decide) rfl ?_
    refine aw_aload_n dL_law_1259 rfl ?_
    refine aw_aload_n dL_law_1260 rfl ?_
    refine aw_iload dL_law_1261 rfl ?_
    refine aw_ic dL_law_1263 ic_1 ?_
    refine aw_iaddN dL_law_1264 ?_
    refine aw_sld (by omega) hL dL_law_1265 ?_
    refine aw_aload_n dL_law_1266 rfl ?_
    refine aw_iload dL_law_1267 rfl ?_
    refine aw_ic dL_law_1269 ic_2 ?_
    refine aw_iaddN dL_law_1270 ?_
    refine aw_sld (by omega) hL dL_law_1271 ?_
    refine aw_callV (As := [.int (xs (i + 1)), .int (xs (i + 2))]) (rest := []) (m_X9_period G hM1 hσ (by omega) (xs (i + 1)) (xs (i + 2))) kX9_period w_1124 hm1 rfl rfl rfl rfl (Nat.le_of_ble_eq_true rfl) dL_law_1272 ⟨Nat.le_of_ble_eq_true rfl, Nat.le_of_ble_eq_true rfl⟩ ⟨(show ce + 1 + 892 ≤ 641004 by omega), (show sl + 6 + 10102 ≤ 7173092 by omega)⟩ (fun v2 h2 n2 p2 hn2 => ?_) (fun E h9 n9 p9 _ => by obtain ⟨e9, -⟩ := p9; cases e9)
    have hv2 : v2 = some (.int (nI (0))) := by have e9 := p2.1; rw [hx9] at e9; exact Sum.inl.inj e9
    obtain ⟨own2, I2, pf2, pg2⟩ := I.B hn1 pH pf hg1 (k_period hσ (xs (i + 1)) (xs (i + 2))) p2
    rw [hx9] at I2
    have I3 : LInv G own2 h2 n2 q (c + 1) _ (nI 2) := I2
    subst hv2
    obtain ⟨s3, hm3⟩ := I3.1.2.2.1
    refine aw_istore (L' := [(7, .int (nI (0))), (6, .int (nI (2))), (0, .ref (b)), (1, .ref (q)), (2, .ref (q + 204)), (3, .ref (q + 207)), (4, .ref (q + 208)), (5, .int (nI (i)))]) dL_law_1275 (by decide) rfl ?_
    refine aw_aload_n dL_law_1277 rfl ?_
    refine aw_callVR (As := []) (rest := []) (c_X9_thrown G hm3) kX9_thrown w_746 hm3 rfl rfl rfl rfl (Nat.le_of_ble_eq_true rfl) dL_law_1278 ⟨Nat.le_of_ble_eq_true rfl, Nat.le_of_ble_eq_true rfl⟩ ⟨(show ce + 1 + 892 + 0 ≤ 641004 by omega), (show sl + 6 + 10102 + 0 ≤ 7173092 by omega)⟩ ?_
    refine aw_iload dL_law_1281 rfl ?_
    refine aw_icmp_eqN (tgt := 1288) (by omega) (by omega) dL_law_1283 (by decide) (fun cz => ?_) (fun cz => absurd cz (by omega))
    refine aw_iload dL_law_1288 rfl ?_
    refine aw_if_neN (tgt := 1305) (by omega) dL_law_1290 (by decide) (fun cy => ?_) (fun cy => absurd cy (by omega))
    refine aw_goto (tgt := 1650) dL_law_1305 (by decide) ?_
    refine aw_widen (cells' := ce + 893) (slots' := sl + 10108) (by omega) (by omega) ?_
    refine aw_sub (L' := [(0, .ref (b)), (1, .ref (q)), (2, .ref (q + 204)), (3, .ref (q + 207)), (4, .ref (q + 208)), (5, .int (nI (i)))]) [2, 3, 4, 5, 6, 7] rfl ?_
    exact K _ _ _ _ _ I3
set_option maxHeartbeats 4000000 in
set_option maxRecDepth 20000 in
theorem law_many (G : aG) {b L q i c nx : Nat} {xs : Nat → Int32} {own : Nat → Nat} {h : aH} {σ : aSg} {th : Int32} {ce sl : Nat} (I : LInv G own h nx q c σ th) (hc9 : c ≤ 511) (hi : i + 5 ≤ L) (hL : L ≤ 2560) (hG : G.2.2.2 < q) (hce : ce + 893 ≤ 641004) (hsl : sl + 10108 ≤ 7173092) (K : ∀ (own1 : Nat → Nat) (h1 : aH) (nx1 : Nat) (σ1 : aSg) (th1 : Int32), LInv G own1 h1 nx1 q (c + 1) σ1 th1 → aw G mL_law [] room_1 (lawQ G b L xs) (ce + 893) (sl + 10108) h1 nx1 1650 [(0, .ref (b)), (1, .ref (q)), (2, .ref (q + 204)), (3, .ref (q + 207)), (4, .ref (q + 208)), (5, .int (nI (i)))] []) : aw G mL_law [] room_1 (lawQ G b L xs) ce sl h nx 1308 [(0, .ref (b)), (1, .ref (q)), (2, .ref (q + 204)), (3, .ref (q + 207)), (4, .ref (q + 208)), (5, .int (nI (i)))] [] := by
  have I0 := I
  obtain ⟨hM, hH, hσ, hO1, ⟨hO2, hO3⟩, ⟨f0, hf0⟩, ⟨g0, hg0⟩, hnx⟩ := I0
  rcases o_many σ (xs (i + 1)) with ⟨x9, hx9⟩ | hx9
  · skip
    refine aw_aload_n dL_law_1308 rfl ?_
    refine aw_aload_n dL_law_1309 rfl ?_
    refine aw_iload dL_law_1310 rfl ?_
    refine aw_ic dL_law_1312 ic_1 ?_
    refine aw_iaddN dL_law_1313 ?_
    refine aw_sld (by omega) hL dL_law_1314 ?_
    refine aw_aload_n dL_law_1315 rfl ?_
    refine aw_callH (As := [.ref (q), .int (xs (i + 1)), .ref (q + 207)]) (rest := []) (l_many G hH hσ (by omega) (Or.inr (by omega)) hf0 (xs (i + 1))) kL_many w_672 rfl rfl (Nat.le_of_ble_eq_true rfl) dL_law_1316 ⟨Nat.le_of_ble_eq_true rfl, Nat.le_of_ble_eq_true rfl⟩ ⟨(show ce + 1 ≤ 641004 by omega), (show sl + 6 ≤ 7173092 by omega)⟩ (fun v1 h1 n1 p1 hn1 => ?_) (fun E h9 n9 p9 _ => by obtain ⟨e9, -⟩ := p9; cases e9)
    obtain ⟨pv1, -, pH, po, f1, pf, pval⟩ := p1
    have hv1 : v1 = some (.int (nI 0)) := by have e9 := pv1; rw [hx9] at e9; exact Sum.inl.inj e9
    subst hv1
    have hg1 := (po (q + 208) (Or.inr (by omega)) (by omega)).trans hg0
    have hM1 := I.A hn1 (fun b z1 z2 z3 => po b z1 z2)
    obtain ⟨s1, hm1⟩ := hM1.2.2.1
    refine aw_istore (L' := [(6, .int (nI (0))), (0, .ref (b)), (1, .ref (q)), (2, .ref (q + 204)), (3, .ref (q + 207)), (4, .ref (q + 208)), (5, .int (nI (i)))]) dL_law_1319 (by decide) rfl ?_
    refine aw_aload_n dL_law_1321 rfl ?_
    refine aw_aload_n dL_law_1322 rfl ?_
    refine aw_iload dL_law_1323 rfl ?_
    refine aw_ic dL_law_1325 ic_1 ?_
    refine aw_iaddN dL_law_1326 ?_
    refine aw_sld (by omega) hL dL_law_1327 ?_
    refine aw_callV (As := [.int (xs (i + 1))]) (rest := []) (m_X9_many G hM1 hσ (by omega) (xs (i + 1))) kX9_many w_1136 hm1 rfl rfl rfl rfl (Nat.le_of_ble_eq_true rfl) dL_law_1328 ⟨Nat.le_of_ble_eq_true rfl, Nat.le_of_ble_eq_true rfl⟩ ⟨(show ce + 1 + 2 ≤ 641004 by omega), (show sl + 6 + 10 ≤ 7173092 by omega)⟩ (fun v2 h2 n2 p2 hn2 => ?_) (fun E h9 n9 p9 _ => by obtain ⟨e9, -⟩ := p9; cases e9)
    have hv2 : v2 = some (.int (x9)) := by have e9 := p2.1; rw [hx9] at e9; exact Sum.inl.inj e9
    obtain ⟨own2, I2, pf2, pg2⟩ := I.B hn1 pH pf hg1 (k_many hσ (xs (i + 1))) p2
    rw [hx9] at I2
    have I3 : LInv G own2 h2 n2 q (c + 1) _ (nI 0) := I2
    subst hv2
    obtain ⟨s3, hm3⟩ := I3.1.2.2.1
    refine aw_istore (L' := [(7, .int (x9)), (6, .int (nI (0))), (0, .ref (b)), (1, .ref (q)), (2, .ref (q + 204)), (3, .ref (q + 207)), (4, .ref (q + 208)), (5, .int (nI (i)))]) dL_law_1331 (by decide) rfl ?_
    refine aw_aload_n dL_law_1333 rfl ?_
    refine aw_callVR (As := []) (rest := []) (c_X9_thrown G hm3) kX9_thrown w_746 hm3 rfl rfl rfl rfl (Nat.le_of_ble_eq_true rfl) dL_law_1334 ⟨Nat.le_of_ble_eq_true rfl, Nat.le_of_ble_eq_true rfl⟩ ⟨(show ce + 1 + 2 + 0 ≤ 641004 by omega), (show sl + 6 + 10 + 0 ≤ 7173092 by omega)⟩ ?_
    refine aw_iload dL_law_1337 rfl ?_
    refine aw_icmp_eqN (tgt := 1344) (by omega) (by omega) dL_law_1339 (by decide) (fun cz => ?_) (fun cz => absurd cz (by omega))
    refine aw_iload dL_law_1344 rfl ?_
    refine aw_if_neN (tgt := 1361) (by omega) dL_law_1346 (by decide) (fun cy => absurd cy (by omega)) (fun cy => ?_)
    refine aw_aload_n dL_law_1349 rfl ?_
    refine aw_ic dL_law_1350 ic_0 ?_
    refine aw_laload pf2 (by omega) (by omega) dL_law_1351 ?_
    refine aw_iload dL_law_1352 rfl ?_
    refine aw_i2l dL_law_1354 ?_
    refine aw_lcmp dL_law_1355 ?_
    refine aw_top (show (lg_cmp (f1 0) ((x9)).toInt64) = (nI (0)) from (by rw [pval x9 hx9]; exact lg_self _)) ?_
    refine aw_if_eqN (tgt := 1361) (by omega) dL_law_1356 (by decide) (fun cx => ?_) (fun cx => absurd cx (by omega))
    refine aw_goto (tgt := 1650) dL_law_1361 (by decide) ?_
    refine aw_widen (cells' := ce + 893) (slots' := sl + 10108) (by omega) (by omega) ?_
    refine aw_sub (L' := [(0, .ref (b)), (1, .ref (q)), (2, .ref (q + 204)), (3, .ref (q + 207)), (4, .ref (q + 208)), (5, .int (nI (i)))]) [2, 3, 4, 5, 6, 7] rfl ?_
    exact K _ _ _ _ _ I3
  · skip
    refine aw_aload_n dL_law_1308 rfl ?_
    refine aw_aload_n dL_law_1309 rfl ?_
    refine aw_iload dL_law_1310 rfl ?_
    refine aw_ic dL_law_1312 ic_1 ?_
    refine aw_iaddN dL_law_1313 ?_
    refine aw_sld (by omega) hL dL_law_1314 ?_
    refine aw_aload_n dL_law_1315 rfl ?_
    refine aw_callH (As := [.ref (q), .int (xs (i + 1)), .ref (q + 207)]) (rest := []) (l_many G hH hσ (by omega) (Or.inr (by omega)) hf0 (xs (i + 1))) kL_many w_672 rfl rfl (Nat.le_of_ble_eq_true rfl) dL_law_1316 ⟨Nat.le_of_ble_eq_true rfl, Nat.le_of_ble_eq_true rfl⟩ ⟨(show ce + 1 ≤ 641004 by omega), (show sl + 6 ≤ 7173092 by omega)⟩ (fun v1 h1 n1 p1 hn1 => ?_) (fun E h9 n9 p9 _ => by obtain ⟨e9, -⟩ := p9; cases e9)
    obtain ⟨pv1, -, pH, po, f1, pf, pval⟩ := p1
    have hv1 : v1 = some (.int (nI 1)) := by have e9 := pv1; rw [hx9] at e9; exact Sum.inl.inj e9
    subst hv1
    have hg1 := (po (q + 208) (Or.inr (by omega)) (by omega)).trans hg0
    have hM1 := I.A hn1 (fun b z1 z2 z3 => po b z1 z2)
    obtain ⟨s1, hm1⟩ := hM1.2.2.1
    refine aw_istore (L' := [(6, .int (nI (1))), (0, .ref (b)), (1, .ref (q)), (2, .ref (q + 204)), (3, .ref (q + 207)), (4, .ref (q + 208)), (5, .int (nI (i)))]) dL_law_1319 (by decide) rfl ?_
    refine aw_aload_n dL_law_1321 rfl ?_
    refine aw_aload_n dL_law_1322 rfl ?_
    refine aw_iload dL_law_1323 rfl ?_
    refine aw_ic dL_law_1325 ic_1 ?_
    refine aw_iaddN dL_law_1326 ?_
    refine aw_sld (by omega) hL dL_law_1327 ?_
    refine aw_callV (As := [.int (xs (i + 1))]) (rest := []) (m_X9_many G hM1 hσ (by omega) (xs (i + 1))) kX9_many w_1136 hm1 rfl rfl rfl rfl (Nat.le_of_ble_eq_true rfl) dL_law_1328 ⟨Nat.le_of_ble_eq_true rfl, Nat.le_of_ble_eq_true rfl⟩ ⟨(show ce + 1 + 2 ≤ 641004 by omega), (show sl + 6 + 10 ≤ 7173092 by omega)⟩ (fun v2 h2 n2 p2 hn2 => ?_) (fun E h9 n9 p9 _ => by obtain ⟨e9, -⟩ := p9; cases e9)
    have hv2 : v2 = some (.int (nI (0))) := by have e9 := p2.1; rw [hx9] at e9; exact Sum.inl.inj e9
    obtain ⟨own2, I2, pf2, pg2⟩ := I.B hn1 pH pf hg1 (k_many hσ (xs (i + 1))) p2
    rw [hx9] at I2
    have I3 : LInv G own2 h2 n2 q (c + 1) _ (nI 1) := I2
    subst hv2
    obtain ⟨s3, hm3⟩ := I3.1.2.2.1
    refine aw_istore (L' := [(7, .int (nI (0))), (6, .int (nI (1))), (0, .ref (b)), (1, .ref (q)), (2, .ref (q + 204)), (3, .ref (q + 207)), (4, .ref (q + 208)), (5, .int (nI (i)))]) dL_law_1331 (by decide) rfl ?_
    refine aw_aload_n dL_law_1333 rfl ?_
    refine aw_callVR (As := []) (rest := []) (c_X9_thrown G hm3) kX9_thrown w_746 hm3 rfl rfl rfl rfl (Nat.le_of_ble_eq_true rfl) dL_law_1334 ⟨Nat.le_of_ble_eq_true rfl, Nat.le_of_ble_eq_true rfl⟩ ⟨(show ce + 1 + 2 + 0 ≤ 641004 by omega), (show sl + 6 + 10 + 0 ≤ 7173092 by omega)⟩ ?_
    refine aw_iload dL_law_1337 rfl ?_
    refine aw_icmp_eqN (tgt := 1344) (by omega) (by omega) dL_law_1339 (by decide) (fun cz => ?_) (fun cz => absurd cz (by omega))
    refine aw_iload dL_law_1344 rfl ?_
    refine aw_if_neN (tgt := 1361) (by omega) dL_law_1346 (by decide) (fun cy => ?_) (fun cy => absurd cy (by omega))
    refine aw_goto (tgt := 1650) dL_law_1361 (by decide) ?_
    refine aw_widen (cells' := ce + 893) (slots' := sl + 10108) (by omega) (by omega) ?_
    refine aw_sub (L' := [(0, .ref (b)), (1, .ref (q)), (2, .ref (q + 204)), (3, .ref (q + 207)), (4, .ref (q + 208)), (5, .int (nI (i)))]) [2, 3, 4, 5, 6, 7] rfl ?_
    exact K _ _ _ _ _ I3
set_option maxHeartbeats 4000000 in
set_option maxRecDepth 20000 in
theorem law_toTop (G : aG) {b L q i c nx : Nat} {xs : Nat → Int32} {own : Nat → Nat} {h : aH} {σ : aSg} {th : Int32} {ce sl : Nat} (I : LInv G own h nx q c σ th) (hc9 : c ≤ 511) (hi : i + 5 ≤ L) (hL : L ≤ 2560) (hG : G.2.2.2 < q) (hce : ce + 893 ≤ 641004) (hsl : sl + 10108 ≤ 7173092) (K : ∀ (own1 : Nat → Nat) (h1 : aH) (nx1 : Nat) (σ1 : aSg) (th1 : Int32), LInv G own1 h1 nx1 q (c + 1) σ1 th1 → aw G mL_law [] room_1 (lawQ G b L xs) (ce + 893) (sl + 10108) h1 nx1 1650 [(0, .ref (b)), (1, .ref (q)), (2, .ref (q + 204)), (3, .ref (q + 207)), (4, .ref (q + 208)), (5, .int (nI (i)))] []) : aw G mL_law [] room_1 (lawQ G b L xs) ce sl h nx 1364 [(0, .ref (b)), (1, .ref (q)), (2, .ref (q + 204)), (3, .ref (q + 207)), (4, .ref (q + 208)), (5, .int (nI (i)))] [] := by
  have I0 := I
  obtain ⟨hM, hH, hσ, hO1, ⟨hO2, hO3⟩, ⟨f0, hf0⟩, ⟨g0, hg0⟩, hnx⟩ := I0
  rcases o_toTop σ (xs (i + 1)) (xs (i + 2)) with ⟨x9, hx9⟩ | hx9
  · skip
    refine aw_aload_n dL_law_1364 rfl ?_
    refine aw_aload_n dL_law_1365 rfl ?_
    refine aw_iload dL_law_1366 rfl ?_
    refine aw_ic dL_law_1368 ic_1 ?_
    refine aw_iaddN dL_law_1369 ?_
    refine aw_sld (by omega) hL dL_law_1370 ?_
    refine aw_aload_n dL_law_1371 rfl ?_
    refine aw_iload dL_law_1372 rfl ?_
    refine aw_ic dL_law_1374 ic_2 ?_
    refine aw_iaddN dL_law_1375 ?_
    refine aw_sld (by omega) hL dL_law_1376 ?_
    refine aw_aload_n dL_law_1377 rfl ?_
    refine aw_callH (As := [.ref (q), .int (xs (i + 1)), .int (xs (i + 2)), .ref (q + 207)]) (rest := []) (l_toTop G hH hσ (by omega) (Or.inr (by omega)) hf0 (xs (i + 1)) (xs (i + 2))) kL_toTop w_676 rfl rfl (Nat.le_of_ble_eq_true rfl) dL_law_1378 ⟨Nat.le_of_ble_eq_true rfl, Nat.le_of_ble_eq_true rfl⟩ ⟨(show ce + 1 ≤ 641004 by omega), (show sl + 6 ≤ 7173092 by omega)⟩ (fun v1 h1 n1 p1 hn1 => ?_) (fun E h9 n9 p9 _ => by obtain ⟨e9, -⟩ := p9; cases e9)
    obtain ⟨pv1, -, pH, po, f1, pf, pval⟩ := p1
    have hv1 : v1 = some (.int (nI 0)) := by have e9 := pv1; rw [hx9] at e9; exact Sum.inl.inj e9
    subst hv1
    have hg1 := (po (q + 208) (Or.inr (by omega)) (by omega)).trans hg0
    have hM1 := I.A hn1 (fun b z1 z2 z3 => po b z1 z2)
    obtain ⟨s1, hm1⟩ := hM1.2.2.1
    refine aw_istore (L' := [(6, .int (nI (0))), (0, .ref (b)), (1, .ref (q)), (2, .ref (q + 204)), (3, .ref (q + 207)), (4, .ref (q + 208)), (5, .int (nI (i)))]) dL_law_1381 (by decide) rfl ?_
    refine aw_aload_n dL_law_1383 rfl ?_
    refine aw_aload_n dL_law_1384 rfl ?_
    refine aw_iload dL_law_1385 rfl ?_
    refine aw_ic dL_law_1387 ic_1 ?_
    refine aw_iaddN dL_law_1388 ?_
    refine aw_sld (by omega) hL dL_law_1389 ?_
    refine aw_aload_n dL_law_1390 rfl ?_
    refine aw_iload dL_law_1391 rfl ?_
    refine aw_ic dL_law_1393 ic_2 ?_
    refine aw_iaddN dL_law_1394 ?_
    refine aw_sld (by omega) hL dL_law_1395 ?_
    refine aw_callV (As := [.int (xs (i + 1)), .int (xs (i + 2))]) (rest := []) (m_X9_toTop G hM1 hσ (by omega) (xs (i + 1)) (xs (i + 2))) kX9_toTop w_1144 hm1 rfl rfl rfl rfl (Nat.le_of_ble_eq_true rfl) dL_law_1396 ⟨Nat.le_of_ble_eq_true rfl, Nat.le_of_ble_eq_true rfl⟩ ⟨(show ce + 1 + 0 ≤ 641004 by omega), (show sl + 6 + 0 ≤ 7173092 by omega)⟩ (fun v2 h2 n2 p2 hn2 => ?_) (fun E h9 n9 p9 _ => by obtain ⟨e9, -⟩ := p9; cases e9)
    have hv2 : v2 = some (.int (x9)) := by have e9 := p2.1; rw [hx9] at e9; exact Sum.inl.inj e9
    obtain ⟨own2, I2, pf2, pg2⟩ := I.B hn1 pH pf hg1 (k_toTop hσ (xs (i + 1)) (xs (i + 2))) p2
    rw [hx9] at I2
    have I3 : LInv G own2 h2 n2 q (c + 1) _ (nI 0) := I2
    subst hv2
    obtain ⟨s3, hm3⟩ := I3.1.2.2.1
    refine aw_istore (L' := [(7, .int (x9)), (6, .int (nI (0))), (0, .ref (b)), (1, .ref (q)), (2, .ref (q + 204)), (3, .ref (q + 207)), (4, .ref (q + 208)), (5, .int (nI (i)))]) dL_law_1399 (by decide) rfl ?_
    refine aw_aload_n dL_law_1401 rfl ?_
    refine aw_callVR (As := []) (rest := []) (c_X9_thrown G hm3) kX9_thrown w_746 hm3 rfl rfl rfl rfl (Nat.le_of_ble_eq_true rfl) dL_law_1402 ⟨Nat.le_of_ble_eq_true rfl, Nat.le_of_ble_eq_true rfl⟩ ⟨(show ce + 1 + 0 + 0 ≤ 641004 by omega), (show sl + 6 + 0 + 0 ≤ 7173092 by omega)⟩ ?_
    refine aw_iload dL_law_1405 rfl ?_
    refine aw_icmp_eqN (tgt := 1412) (by omega) (by omega) dL_law_1407 (by decide) (fun cz => ?_) (fun cz => absurd cz (by omega))
    refine aw_iload dL_law_1412 rfl ?_
    refine aw_if_neN (tgt := 1429) (by omega) dL_law_1414 (by decide) (fun cy => absurd cy (by omega)) (fun cy => ?_)
    refine aw_aload_n dL_law_1417 rfl ?_
    refine aw_ic dL_law_1418 ic_0 ?_
    refine aw_laload pf2 (by omega) (by omega) dL_law_1419 ?_
    refine aw_iload dL_law_1420 rfl ?_
    refine aw_i2l dL_law_1422 ?_
    refine aw_lcmp dL_law_1423 ?_
    refine aw_top (show (lg_cmp (f1 0) ((x9)).toInt64) = (nI (0)) from (by rw [pval x9 hx9]; exact lg_self _)) ?_
    refine aw_if_eqN (tgt := 1429) (by omega) dL_law_1424 (by decide) (fun cx => ?_) (fun cx => absurd cx (by omega))
    refine aw_goto (tgt := 1650) dL_law_1429 (by decide) ?_
    refine aw_widen (cells' := ce + 893) (slots' := sl + 10108) (by omega) (by omega) ?_
    refine aw_sub (L' := [(0, .ref (b)), (1, .ref (q)), (2, .ref (q + 204)), (3, .ref (q + 207)), (4, .ref (q + 208)), (5, .int (nI (i)))]) [2, 3, 4, 5, 6, 7] rfl ?_
    exact K _ _ _ _ _ I3
  · skip
    refine aw_aload_n dL_law_1364 rfl ?_
    refine aw_aload_n dL_law_1365 rfl ?_
    refine aw_iload dL_law_1366 rfl ?_
    refine aw_ic dL_law_1368 ic_1 ?_
    refine aw_iaddN dL_law_1369 ?_
    refine aw_sld (by omega) hL dL_law_1370 ?_
    refine aw_aload_n dL_law_1371 rfl ?_
    refine aw_iload dL_law_1372 rfl ?_
    refine aw_ic dL_law_1374 ic_2 ?_
    refine aw_iaddN dL_law_1375 ?_
    refine aw_sld (by omega) hL dL_law_1376 ?_
    refine aw_aload_n dL_law_1377 rfl ?_
    refine aw_callH (As := [.ref (q), .int (xs (i + 1)), .int (xs (i + 2)), .ref (q + 207)]) (rest := []) (l_toTop G hH hσ (by omega) (Or.inr (by omega)) hf0 (xs (i + 1)) (xs (i + 2))) kL_toTop w_676 rfl rfl (Nat.le_of_ble_eq_true rfl) dL_law_1378 ⟨Nat.le_of_ble_eq_true rfl, Nat.le_of_ble_eq_true rfl⟩ ⟨(show ce + 1 ≤ 641004 by omega), (show sl + 6 ≤ 7173092 by omega)⟩ (fun v1 h1 n1 p1 hn1 => ?_) (fun E h9 n9 p9 _ => by obtain ⟨e9, -⟩ := p9; cases e9)
    obtain ⟨pv1, -, pH, po, f1, pf, pval⟩ := p1
    have hv1 : v1 = some (.int (nI 1)) := by have e9 := pv1; rw [hx9] at e9; exact Sum.inl.inj e9
    subst hv1
    have hg1 := (po (q + 208) (Or.inr (by omega)) (by omega)).trans hg0
    have hM1 := I.A hn1 (fun b z1 z2 z3 => po b z1 z2)
    obtain ⟨s1, hm1⟩ := hM1.2.2.1
    refine aw_istore (L' := [(6, .int (nI (1))), (0, .ref (b)), (1, .ref (q)), (2, .ref (q + 204)), (3, .ref (q + 207)), (4, .ref (q + 208)), (5, .int (nI (i)))]) dL_law_1381 (by decide) rfl ?_
    refine aw_aload_n dL_law_1383 rfl ?_
    refine aw_aload_n dL_law_1384 rfl ?_
    refine aw_iload dL_law_1385 rfl ?_
    refine aw_ic dL_law_1387 ic_1 ?_
    refine aw_iaddN dL_law_1388 ?_
    refine aw_sld (by omega) hL dL_law_1389 ?_
    refine aw_aload_n dL_law_1390 rfl ?_
    refine aw_iload dL_law_1391 rfl ?_
    refine aw_ic dL_law_1393 ic_2 ?_
    refine aw_iaddN dL_law_1394 ?_
    refine aw_sld (by omega) hL dL_law_1395 ?_
    refine aw_callV (As := [.int (xs (i + 1)), .int (xs (i + 2))]) (rest := []) (m_X9_toTop G hM1 hσ (by omega) (xs (i + 1)) (xs (i + 2))) kX9_toTop w_1144 hm1 rfl rfl rfl rfl (Nat.le_of_ble_eq_true rfl) dL_law_1396 ⟨Nat.le_of_ble_eq_true rfl, Nat.le_of_ble_eq_true rfl⟩ ⟨(show ce + 1 + 0 ≤ 641004 by omega), (show sl + 6 + 0 ≤ 7173092 by omega)⟩ (fun v2 h2 n2 p2 hn2 => ?_) (fun E h9 n9 p9 _ => by obtain ⟨e9, -⟩ := p9; cases e9)
    have hv2 : v2 = some (.int (nI (0))) := by have e9 := p2.1; rw [hx9] at e9; exact Sum.inl.inj e9
    obtain ⟨own2, I2, pf2, pg2⟩ := I.B hn1 pH pf hg1 (k_toTop hσ (xs (i + 1)) (xs (i + 2))) p2
    rw [hx9] at I2
    have I3 : LInv G own2 h2 n2 q (c + 1) _ (nI 1) := I2
    subst hv2
    obtain ⟨s3, hm3⟩ := I3.1.2.2.1
    refine aw_istore (L' := [(7, .int (nI (0))), (6, .int (nI (1))), (0, .ref (b)), (1, .ref (q)), (2, .ref (q + 204)), (3, .ref (q + 207)), (4, .ref (q + 208)), (5, .int (nI (i)))]) dL_law_1399 (by decide) rfl ?_
    refine aw_aload_n dL_law_1401 rfl ?_
    refine aw_callVR (As := []) (rest := []) (c_X9_thrown G hm3) kX9_thrown w_746 hm3 rfl rfl rfl rfl (Nat.le_of_ble_eq_true rfl) dL_law_1402 ⟨Nat.le_of_ble_eq_true rfl, Nat.le_of_ble_eq_true rfl⟩ ⟨(show ce + 1 + 0 + 0 ≤ 641004 by omega), (show sl + 6 + 0 + 0 ≤ 7173092 by omega)⟩ ?_
    refine aw_iload dL_law_1405 rfl ?_
    refine aw_icmp_eqN (tgt := 1412) (by omega) (by omega) dL_law_1407 (by decide) (fun cz => ?_) (fun cz => absurd cz (by omega))
    refine aw_iload dL_law_1412 rfl ?_
    refine aw_if_neN (tgt := 1429) (by omega) dL_law_1414 (by decide) (fun cy => ?_) (fun cy => absurd cy (by omega))
    refine aw_goto (tgt := 1650) dL_law_1429 (by decide) ?_
    refine aw_widen (cells' := ce + 893) (slots' := sl + 10108) (by omega) (by omega) ?_
    refine aw_sub (L' := [(0, .ref (b)), (1, .ref (q)), (2, .ref (q + 204)), (3, .ref (q + 207)), (4, .ref (q + 208)), (5, .int (nI (i)))]) [2, 3, 4, 5, 6, 7] rfl ?_
    exact K _ _ _ _ _ I3
set_option maxHeartbeats 4000000 in
set_option maxRecDepth 20000 in
theorem law_goes (G : aG) {b L q i c nx : Nat} {xs : Nat → Int32} {own : Nat → Nat} {h : aH} {σ : aSg} {th : Int32} {ce sl : Nat} (I : LInv G own h nx q c σ th) (hc9 : c ≤ 511) (hi : i + 5 ≤ L) (hL : L ≤ 2560) (hG : G.2.2.2 < q) (hce : ce + 893 ≤ 641004) (hsl : sl + 10108 ≤ 7173092) (K : ∀ (own1 : Nat → Nat) (h1 : aH) (nx1 : Nat) (σ1 : aSg) (th1 : Int32), LInv G own1 h1 nx1 q (c + 1) σ1 th1 → aw G mL_law [] room_1 (lawQ G b L xs) (ce + 893) (sl + 10108) h1 nx1 1650 [(0, .ref (b)), (1, .ref (q)), (2, .ref (q + 204)), (3, .ref (q + 207)), (4, .ref (q + 208)), (5, .int (nI (i)))] []) : aw G mL_law [] room_1 (lawQ G b L xs) ce sl h nx 1432 [(0, .ref (b)), (1, .ref (q)), (2, .ref (q + 204)), (3, .ref (q + 207)), (4, .ref (q + 208)), (5, .int (nI (i)))] [] := by
  have I0 := I
  obtain ⟨hM, hH, hσ, hO1, ⟨hO2, hO3⟩, ⟨f0, hf0⟩, ⟨g0, hg0⟩, hnx⟩ := I0
  rcases o_goes σ (xs (i + 1)) (xs (i + 2)) (xs (i + 3)) (xs (i + 4)) with ⟨x9, hx9⟩ | hx9 | hx9
  · skip
    refine aw_aload_n dL_law_1432 rfl ?_
    refine aw_aload_n dL_law_1433 rfl ?_
    refine aw_iload dL_law_1434 rfl ?_
    refine aw_ic dL_law_1436 ic_1 ?_
    refine aw_iaddN dL_law_1437 ?_
    refine aw_sld (by omega) hL dL_law_1438 ?_
    refine aw_aload_n dL_law_1439 rfl ?_
    refine aw_iload dL_law_1440 rfl ?_
    refine aw_ic dL_law_1442 ic_2 ?_
    refine aw_iaddN dL_law_1443 ?_
    refine aw_sld (by omega) hL dL_law_1444 ?_
    refine aw_aload_n dL_law_1445 rfl ?_
    refine aw_iload dL_law_1446 rfl ?_
    refine aw_ic dL_law_1448 ic_3 ?_
    refine aw_iaddN dL_law_1449 ?_
    refine aw_sld (by omega) hL dL_law_1450 ?_
    refine aw_aload_n dL_law_1451 rfl ?_
    refine aw_iload dL_law_1452 rfl ?_
    refine aw_ic dL_law_1454 ic_4 ?_
    refine aw_iaddN dL_law_1455 ?_
    refine aw_sld (by omega) hL dL_law_1456 ?_
    refine aw_aload_n dL_law_1457 rfl ?_
    refine aw_callH (As := [.ref (q), .int (xs (i + 1)), .int (xs (i + 2)), .int (xs (i + 3)), .int (xs (i + 4)), .ref (q + 207)]) (rest := []) (l_goes G hH hσ (by omega) (Or.inr (by omega)) hf0 (xs (i + 1)) (xs (i + 2)) (xs (i + 3)) (xs (i + 4))) kL_goes w_680 rfl rfl (Nat.le_of_ble_eq_true rfl) dL_law_1458 ⟨Nat.le_of_ble_eq_true rfl, Nat.le_of_ble_eq_true rfl⟩ ⟨(show ce + 1 ≤ 641004 by omega), (show sl + 6 ≤ 7173092 by omega)⟩ (fun v1 h1 n1 p1 hn1 => ?_) (fun E h9 n9 p9 _ => by obtain ⟨e9, -⟩ := p9; cases e9)
    obtain ⟨pv1, -, pH, po, f1, pf, pval⟩ := p1
    have hv1 : v1 = some (.int (nI 0)) := by have e9 := pv1; rw [hx9] at e9; exact Sum.inl.inj e9
    subst hv1
    have hg1 := (po (q + 208) (Or.inr (by omega)) (by omega)).trans hg0
    have hM1 := I.A hn1 (fun b z1 z2 z3 => po b z1 z2)
    obtain ⟨s1, hm1⟩ := hM1.2.2.1
    refine aw_istore (L' := [(6, .int (nI (0))), (0, .ref (b)), (1, .ref (q)), (2, .ref (q + 204)), (3, .ref (q + 207)), (4, .ref (q + 208)), (5, .int (nI (i)))]) dL_law_1461 (by decide) rfl ?_
    refine aw_aload_n dL_law_1463 rfl ?_
    refine aw_aload_n dL_law_1464 rfl ?_
    refine aw_iload dL_law_1465 rfl ?_
    refine aw_ic dL_law_1467 ic_1 ?_
    refine aw_iaddN dL_law_1468 ?_
    refine aw_sld (by omega) hL dL_law_1469 ?_
    refine aw_aload_n dL_law_1470 rfl ?_
    refine aw_iload dL_law_1471 rfl ?_
    refine aw_ic dL_law_1473 ic_2 ?_
    refine aw_iaddN dL_law_1474 ?_
    refine aw_sld (by omega) hL dL_law_1475 ?_
    refine aw_aload_n dL_law_1476 rfl ?_
    refine aw_iload dL_law_1477 rfl ?_
    refine aw_ic dL_law_1479 ic_3 ?_
    refine aw_iaddN dL_law_1480 ?_
    refine aw_sld (by omega) hL dL_law_1481 ?_
    refine aw_aload_n dL_law_1482 rfl ?_
    refine aw_iload dL_law_1483 rfl ?_
    refine aw_ic dL_law_1485 ic_4 ?_
    refine aw_iaddN dL_law_1486 ?_
    refine aw_sld (by omega) hL dL_law_1487 ?_
    refine aw_callV (As := [.int (xs (i + 1)), .int (xs (i + 2)), .int (xs (i + 3)), .int (xs (i + 4))]) (rest := []) (m_X9_goes G hM1 hσ (by omega) (xs (i + 1)) (xs (i + 2)) (xs (i + 3)) (xs (i + 4))) kX9_goes w_1151 hm1 rfl rfl rfl rfl (Nat.le_of_ble_eq_true rfl) dL_law_1488 ⟨Nat.le_of_ble_eq_true rfl, Nat.le_of_ble_eq_true rfl⟩ ⟨(show ce + 1 + 3 ≤ 641004 by omega), (show sl + 6 + 34 ≤ 7173092 by omega)⟩ (fun v2 h2 n2 p2 hn2 => ?_) (fun E h9 n9 p9 _ => by obtain ⟨e9, -⟩ := p9; cases e9)
    have hv2 : v2 = some (.int (x9)) := by have e9 := p2.1; rw [hx9] at e9; exact Sum.inl.inj e9
    obtain ⟨own2, I2, pf2, pg2⟩ := I.B hn1 pH pf hg1 (k_goes hσ (xs (i + 1)) (xs (i + 2)) (xs (i + 3)) (xs (i + 4))) p2
    rw [hx9] at I2
    have I3 : LInv G own2 h2 n2 q (c + 1) _ (nI 0) := I2
    subst hv2
    obtain ⟨s3, hm3⟩ := I3.1.2.2.1
    refine aw_istore (L' := [(7, .int (x9)), (6, .int (nI (0))), (0, .ref (b)), (1, .ref (q)), (2, .ref (q + 204)), (3, .ref (q + 207)), (4, .ref (q + 208)), (5, .int (nI (i)))]) dL_law_1491 (by decide) rfl ?_
    refine aw_aload_n dL_law_1493 rfl ?_
    refine aw_callVR (As := []) (rest := []) (c_X9_thrown G hm3) kX9_thrown w_746 hm3 rfl rfl rfl rfl (Nat.le_of_ble_eq_true rfl) dL_law_1494 ⟨Nat.le_of_ble_eq_true rfl, Nat.le_of_ble_eq_true rfl⟩ ⟨(show ce + 1 + 3 + 0 ≤ 641004 by omega), (show sl + 6 + 34 + 0 ≤ 7173092 by omega)⟩ ?_
    refine aw_iload dL_law_1497 rfl ?_
    refine aw_icmp_eqN (tgt := 1504) (by omega) (by omega) dL_law_1499 (by decide) (fun cz => ?_) (fun cz => absurd cz (by omega))
    refine aw_iload dL_law_1504 rfl ?_
    refine aw_if_neN (tgt := 1521) (by omega) dL_law_1506 (by decide) (fun cy => absurd cy (by omega)) (fun cy => ?_)
    refine aw_aload_n dL_law_1509 rfl ?_
    refine aw_ic dL_law_1510 ic_0 ?_
    refine aw_laload pf2 (by omega) (by omega) dL_law_1511 ?_
    refine aw_iload dL_law_1512 rfl ?_
    refine aw_i2l dL_law_1514 ?_
    refine aw_lcmp dL_law_1515 ?_
    refine aw_top (show (lg_cmp (f1 0) ((x9)).toInt64) = (nI (0)) from (by rw [pval x9 hx9]; exact lg_self _)) ?_
    refine aw_if_eqN (tgt := 1521) (by omega) dL_law_1516 (by decide) (fun cx => ?_) (fun cx => absurd cx (by omega))
    refine aw_goto (tgt := 1650) dL_law_1521 (by decide) ?_
    refine aw_widen (cells' := ce + 893) (slots' := sl + 10108) (by omega) (by omega) ?_
    refine aw_sub (L' := [(0, .ref (b)), (1, .ref (q)), (2, .ref (q + 204)), (3, .ref (q + 207)), (4, .ref (q + 208)), (5, .int (nI (i)))]) [2, 3, 4, 5, 6, 7] rfl ?_
    exact K _ _ _ _ _ I3
  · skip
    refine aw_aload_n dL_law_1432 rfl ?_
    refine aw_aload_n dL_law_1433 rfl ?_
    refine aw_iload dL_law_1434 rfl ?_
    refine aw_ic dL_law_1436 ic_1 ?_
    refine aw_iaddN dL_law_1437 ?_
    refine aw_sld (by omega) hL dL_law_1438 ?_
    refine aw_aload_n dL_law_1439 rfl ?_
    refine aw_iload dL_law_1440 rfl ?_
    refine aw_ic dL_law_1442 ic_2 ?_
    refine aw_iaddN dL_law_1443 ?_
    refine aw_sld (by omega) hL dL_law_1444 ?_
    refine aw_aload_n dL_law_1445 rfl ?_
    refine aw_iload dL_law_1446 rfl ?_
    refine aw_ic dL_law_1448 ic_3 ?_
    refine aw_iaddN dL_law_1449 ?_
    refine aw_sld (by omega) hL dL_law_1450 ?_
    refine aw_aload_n dL_law_1451 rfl ?_
    refine aw_iload dL_law_1452 rfl ?_
    refine aw_ic dL_law_1454 ic_4 ?_
    refine aw_iaddN dL_law_1455 ?_
    refine aw_sld (by omega) hL dL_law_1456 ?_
    refine aw_aload_n dL_law_1457 rfl ?_
    refine aw_callH (As := [.ref (q), .int (xs (i + 1)), .int (xs (i + 2)), .int (xs (i + 3)), .int (xs (i + 4)), .ref (q + 207)]) (rest := []) (l_goes G hH hσ (by omega) (Or.inr (by omega)) hf0 (xs (i + 1)) (xs (i + 2)) (xs (i + 3)) (xs (i + 4))) kL_goes w_680 rfl rfl (Nat.le_of_ble_eq_true rfl) dL_law_1458 ⟨Nat.le_of_ble_eq_true rfl, Nat.le_of_ble_eq_true rfl⟩ ⟨(show ce + 1 ≤ 641004 by omega), (show sl + 6 ≤ 7173092 by omega)⟩ (fun v1 h1 n1 p1 hn1 => ?_) (fun E h9 n9 p9 _ => by obtain ⟨e9, -⟩ := p9; cases e9)
    obtain ⟨pv1, -, pH, po, f1, pf, pval⟩ := p1
    have hv1 : v1 = some (.int (nI 1)) := by have e9 := pv1; rw [hx9] at e9; exact Sum.inl.inj e9
    subst hv1
    have hg1 := (po (q + 208) (Or.inr (by omega)) (by omega)).trans hg0
    have hM1 := I.A hn1 (fun b z1 z2 z3 => po b z1 z2)
    obtain ⟨s1, hm1⟩ := hM1.2.2.1
    refine aw_istore (L' := [(6, .int (nI (1))), (0, .ref (b)), (1, .ref (q)), (2, .ref (q + 204)), (3, .ref (q + 207)), (4, .ref (q + 208)), (5, .int (nI (i)))]) dL_law_1461 (by decide) rfl ?_
    refine aw_aload_n dL_law_1463 rfl ?_
    refine aw_aload_n dL_law_1464 rfl ?_
    refine aw_iload dL_law_1465 rfl ?_
    refine aw_ic dL_law_1467 ic_1 ?_
    refine aw_iaddN dL_law_1468 ?_
    refine aw_sld (by omega) hL dL_law_1469 ?_
    refine aw_aload_n dL_law_1470 rfl ?_
    refine aw_iload dL_law_1471 rfl ?_
    refine aw_ic dL_law_1473 ic_2 ?_
    refine aw_iaddN dL_law_1474 ?_
    refine aw_sld (by omega) hL dL_law_1475 ?_
    refine aw_aload_n dL_law_1476 rfl ?_
    refine aw_iload dL_law_1477 rfl ?_
    refine aw_ic dL_law_1479 ic_3 ?_
    refine aw_iaddN dL_law_1480 ?_
    refine aw_sld (by omega) hL dL_law_1481 ?_
    refine aw_aload_n dL_law_1482 rfl ?_
    refine aw_iload dL_law_1483 rfl ?_
    refine aw_ic dL_law_1485 ic_4 ?_
    refine aw_iaddN dL_law_1486 ?_
    refine aw_sld (by omega) hL dL_law_1487 ?_
    refine aw_callV (As := [.int (xs (i + 1)), .int (xs (i + 2)), .int (xs (i + 3)), .int (xs (i + 4))]) (rest := []) (m_X9_goes G hM1 hσ (by omega) (xs (i + 1)) (xs (i + 2)) (xs (i + 3)) (xs (i + 4))) kX9_goes w_1151 hm1 rfl rfl rfl rfl (Nat.le_of_ble_eq_true rfl) dL_law_1488 ⟨Nat.le_of_ble_eq_true rfl, Nat.le_of_ble_eq_true rfl⟩ ⟨(show ce + 1 + 3 ≤ 641004 by omega), (show sl + 6 + 34 ≤ 7173092 by omega)⟩ (fun v2 h2 n2 p2 hn2 => ?_) (fun E h9 n9 p9 _ => by obtain ⟨e9, -⟩ := p9; cases e9)
    have hv2 : v2 = some (.int (nI (0))) := by have e9 := p2.1; rw [hx9] at e9; exact Sum.inl.inj e9
    obtain ⟨own2, I2, pf2, pg2⟩ := I.B hn1 pH pf hg1 (k_goes hσ (xs (i + 1)) (xs (i + 2)) (xs (i + 3)) (xs (i + 4))) p2
    rw [hx9] at I2
    have I3 : LInv G own2 h2 n2 q (c + 1) _ (nI 1) := I2
    subst hv2
    obtain ⟨s3, hm3⟩ := I3.1.2.2.1
    refine aw_istore (L' := [(7, .int (nI (0))), (6, .int (nI (1))), (0, .ref (b)), (1, .ref (q)), (2, .ref (q + 204)), (3, .ref (q + 207)), (4, .ref (q + 208)), (5, .int (nI (i)))]) dL_law_1491 (by decide) rfl ?_
    refine aw_aload_n dL_law_1493 rfl ?_
    refine aw_callVR (As := []) (rest := []) (c_X9_thrown G hm3) kX9_thrown w_746 hm3 rfl rfl rfl rfl (Nat.le_of_ble_eq_true rfl) dL_law_1494 ⟨Nat.le_of_ble_eq_true rfl, Nat.le_of_ble_eq_true rfl⟩ ⟨(show ce + 1 + 3 + 0 ≤ 641004 by omega), (show sl + 6 + 34 + 0 ≤ 7173092 by omega)⟩ ?_
    refine aw_iload dL_law_1497 rfl ?_
    refine aw_icmp_eqN (tgt := 1504) (by omega) (by omega) dL_law_1499 (by decide) (fun cz => ?_) (fun cz => absurd cz (by omega))
    refine aw_iload dL_law_1504 rfl ?_
    refine aw_if_neN (tgt := 1521) (by omega) dL_law_1506 (by decide) (fun cy => ?_) (fun cy => absurd cy (by omega))
    refine aw_goto (tgt := 1650) dL_law_1521 (by decide) ?_
    refine aw_widen (cells' := ce + 893) (slots' := sl + 10108) (by omega) (by omega) ?_
    refine aw_sub (L' := [(0, .ref (b)), (1, .ref (q)), (2, .ref (q + 204)), (3, .ref (q + 207)), (4, .ref (q + 208)), (5, .int (nI (i)))]) [2, 3, 4, 5, 6, 7] rfl ?_
    exact K _ _ _ _ _ I3
  · skip
    refine aw_aload_n dL_law_1432 rfl ?_
    refine aw_aload_n dL_law_1433 rfl ?_
    refine aw_iload dL_law_1434 rfl ?_
    refine aw_ic dL_law_1436 ic_1 ?_
    refine aw_iaddN dL_law_1437 ?_
    refine aw_sld (by omega) hL dL_law_1438 ?_
    refine aw_aload_n dL_law_1439 rfl ?_
    refine aw_iload dL_law_1440 rfl ?_
    refine aw_ic dL_law_1442 ic_2 ?_
    refine aw_iaddN dL_law_1443 ?_
    refine aw_sld (by omega) hL dL_law_1444 ?_
    refine aw_aload_n dL_law_1445 rfl ?_
    refine aw_iload dL_law_1446 rfl ?_
    refine aw_ic dL_law_1448 ic_3 ?_
    refine aw_iaddN dL_law_1449 ?_
    refine aw_sld (by omega) hL dL_law_1450 ?_
    refine aw_aload_n dL_law_1451 rfl ?_
    refine aw_iload dL_law_1452 rfl ?_
    refine aw_ic dL_law_1454 ic_4 ?_
    refine aw_iaddN dL_law_1455 ?_
    refine aw_sld (by omega) hL dL_law_1456 ?_
    refine aw_aload_n dL_law_1457 rfl ?_
    refine aw_callH (As := [.ref (q), .int (xs (i + 1)), .int (xs (i + 2)), .int (xs (i + 3)), .int (xs (i + 4)), .ref (q + 207)]) (rest := []) (l_goes G hH hσ (by omega) (Or.inr (by omega)) hf0 (xs (i + 1)) (xs (i + 2)) (xs (i + 3)) (xs (i + 4))) kL_goes w_680 rfl rfl (Nat.le_of_ble_eq_true rfl) dL_law_1458 ⟨Nat.le_of_ble_eq_true rfl, Nat.le_of_ble_eq_true rfl⟩ ⟨(show ce + 1 ≤ 641004 by omega), (show sl + 6 ≤ 7173092 by omega)⟩ (fun v1 h1 n1 p1 hn1 => ?_) (fun E h9 n9 p9 _ => by obtain ⟨e9, -⟩ := p9; cases e9)
    obtain ⟨pv1, -, pH, po, f1, pf, pval⟩ := p1
    have hv1 : v1 = some (.int (nI 2)) := by have e9 := pv1; rw [hx9] at e9; exact Sum.inl.inj e9
    subst hv1
    have hg1 := (po (q + 208) (Or.inr (by omega)) (by omega)).trans hg0
    have hM1 := I.A hn1 (fun b z1 z2 z3 => po b z1 z2)
    obtain ⟨s1, hm1⟩ := hM1.2.2.1
    refine aw_istore (L' := [(6, .int (nI (2))), (0, .ref (b)), (1, .ref (q)), (2, .ref (q + 204)), (3, .ref (q + 207)), (4, .ref (q + 208)), (5, .int (nI (i)))]) dL_law_1461 (by decide) rfl ?_
    refine aw_aload_n dL_law_1463 rfl ?_
    refine aw_aload_n dL_law_1464 rfl ?_
    refine aw_iload dL_law_1465 rfl ?_
    refine aw_ic dL_law_1467 ic_1 ?_
    refine aw_iaddN dL_law_1468 ?_
    refine aw_sld (by omega) hL dL_law_1469 ?_
    refine aw_aload_n dL_law_1470 rfl ?_
    refine aw_iload dL_law_1471 rfl ?_
    refine aw_ic dL_law_1473 ic_2 ?_
    refine aw_iaddN dL_law_1474 ?_
    refine aw_sld (by omega) hL dL_law_1475 ?_
    refine aw_aload_n dL_law_1476 rfl ?_
    refine aw_iload dL_law_1477 rfl ?_
    refine aw_ic dL_law_1479 ic_3 ?_
    refine aw_iaddN dL_law_1480 ?_
    refine aw_sld (by omega) hL dL_law_1481 ?_
    refine aw_aload_n dL_law_1482 rfl ?_
    refine aw_iload dL_law_1483 rfl ?_
    refine aw_ic dL_law_1485 ic_4 ?_
    refine aw_iaddN dL_law_1486 ?_
    refine aw_sld (by omega) hL dL_law_1487 ?_
    refine aw_callV (As := [.int (xs (i + 1)), .int (xs (i + 2)), .int (xs (i + 3)), .int (xs (i + 4))]) (rest := []) (m_X9_goes G hM1 hσ (by omega) (xs (i + 1)) (xs (i + 2)) (xs (i + 3)) (xs (i + 4))) kX9_goes w_1151 hm1 rfl rfl rfl rfl (Nat.le_of_ble_eq_true rfl) dL_law_1488 ⟨Nat.le_of_ble_eq_true rfl, Nat.le_of_ble_eq_true rfl⟩ ⟨(show ce + 1 + 3 ≤ 641004 by omega), (show sl + 6 + 34 ≤ 7173092 by omega)⟩ (fun v2 h2 n2 p2 hn2 => ?_) (fun E h9 n9 p9 _ => by obtain ⟨e9, -⟩ := p9; cases e9)
    have hv2 : v2 = some (.int (nI (0))) := by have e9 := p2.1; rw [hx9] at e9; exact Sum.inl.inj e9
    obtain ⟨own2, I2, pf2, pg2⟩ := I.B hn1 pH pf hg1 (k_goes hσ (xs (i + 1)) (xs (i + 2)) (xs (i + 3)) (xs (i + 4))) p2
    rw [hx9] at I2
    have I3 : LInv G own2 h2 n2 q (c + 1) _ (nI 2) := I2
    subst hv2
    obtain ⟨s3, hm3⟩ := I3.1.2.2.1
    refine aw_istore (L' := [(7, .int (nI (0))), (6, .int (nI (2))), (0, .ref (b)), (1, .ref (q)), (2, .ref (q + 204)), (3, .ref (q + 207)), (4, .ref (q + 208)), (5, .int (nI (i)))]) dL_law_1491 (by decide) rfl ?_
    refine aw_aload_n dL_law_1493 rfl ?_
    refine aw_callVR (As := []) (rest := []) (c_X9_thrown G hm3) kX9_thrown w_746 hm3 rfl rfl rfl rfl (Nat.le_of_ble_eq_true rfl) dL_law_1494 ⟨Nat.le_of_ble_eq_true rfl, Nat.le_of_ble_eq_true rfl⟩ ⟨(show ce + 1 + 3 + 0 ≤ 641004 by omega), (show sl + 6 + 34 + 0 ≤ 7173092 by omega)⟩ ?_
    refine aw_iload dL_law_1497 rfl ?_
    refine aw_icmp_eqN (tgt := 1504) (by omega) (by omega) dL_law_1499 (by decide) (fun cz => ?_) (fun cz => absurd cz (by omega))
    refine aw_iload dL_law_1504 rfl ?_
    refine aw_if_neN (tgt := 1521) (by omega) dL_law_1506 (by decide) (fun cy => ?_) (fun cy => absurd cy (by omega))
    refine aw_goto (tgt := 1650) dL_law_1521 (by decide) ?_
    refine aw_widen (cells' := ce + 893) (slots' := sl + 10108) (by omega) (by omega) ?_
    refine aw_sub (L' := [(0, .ref (b)), (1, .ref (q)), (2, .ref (q + 204)), (3, .ref (q + 207)), (4, .ref (q + 208)), (5, .int (nI (i)))]) [2, 3, 4, 5, 6, 7] rfl ?_
    exact K _ _ _ _ _ I3
set_option maxHeartbeats 4000000 in
set_option maxRecDepth 20000 in
theorem law_best (G : aG) {b L q i c nx : Nat} {xs : Nat → Int32} {own : Nat → Nat} {h : aH} {σ : aSg} {th : Int32} {ce sl : Nat} (I : LInv G own h nx q c σ th) (hc9 : c ≤ 511) (hi : i + 5 ≤ L) (hL : L ≤ 2560) (hG : G.2.2.2 < q) (hce : ce + 893 ≤ 641004) (hsl : sl + 10108 ≤ 7173092) (K : ∀ (own1 : Nat → Nat) (h1 : aH) (nx1 : Nat) (σ1 : aSg) (th1 : Int32), LInv G own1 h1 nx1 q (c + 1) σ1 th1 → aw G mL_law [] room_1 (lawQ G b L xs) (ce + 893) (sl + 10108) h1 nx1 1650 [(0, .ref (b)), (1, .ref (q)), (2, .ref (q + 204)), (3, .ref (q + 207)), (4, .ref (q + 208)), (5, .int (nI (i)))] []) : aw G mL_law [] room_1 (lawQ G b L xs) ce sl h nx 1524 [(0, .ref (b)), (1, .ref (q)), (2, .ref (q + 204)), (3, .ref (q + 207)), (4, .ref (q + 208)), (5, .int (nI (i)))] [] := by
  have I0 := I
  obtain ⟨hM, hH, hσ, hO1, ⟨hO2, hO3⟩, ⟨f0, hf0⟩, ⟨g0, hg0⟩, hnx⟩ := I0
  rcases o_best σ (xs (i + 1)) with ⟨x9, hx9⟩ | hx9
  · skip
    refine aw_aload_n dL_law_1524 rfl ?_
    refine aw_aload_n dL_law_1525 rfl ?_
    refine aw_iload dL_law_1526 rfl ?_
    refine aw_ic dL_law_1528 ic_1 ?_
    refine aw_iaddN dL_law_1529 ?_
    refine aw_sld (by omega) hL dL_law_1530 ?_
    refine aw_aload_n dL_law_1531 rfl ?_
    refine aw_callH (As := [.ref (q), .int (xs (i + 1)), .ref (q + 207)]) (rest := []) (l_best G hH hσ (by omega) (Or.inr (by omega)) hf0 (xs (i + 1))) kL_best w_687 rfl rfl (Nat.le_of_ble_eq_true rfl) dL_law_1532 ⟨Nat.le_of_ble_eq_true rfl, Nat.le_of_ble_eq_true rfl⟩ ⟨(show ce + 1 ≤ 641004 by omega), (show sl + 6 ≤ 7173092 by omega)⟩ (fun v1 h1 n1 p1 hn1 => ?_) (fun E h9 n9 p9 _ => by obtain ⟨e9, -⟩ := p9; cases e9)
    obtain ⟨pv1, -, pH, po, f1, pf, pval⟩ := p1
    have hv1 : v1 = some (.int (nI 0)) := by have e9 := pv1; rw [hx9] at e9; exact Sum.inl.inj e9
    subst hv1
    have hg1 := (po (q + 208) (Or.inr (by omega)) (by omega)).trans hg0
    have hM1 := I.A hn1 (fun b z1 z2 z3 => po b z1 z2)
    obtain ⟨s1, hm1⟩ := hM1.2.2.1
    refine aw_istore (L' := [(6, .int (nI (0))), (0, .ref (b)), (1, .ref (q)), (2, .ref (q + 204)), (3, .ref (q + 207)), (4, .ref (q + 208)), (5, .int (nI (i)))]) dL_law_1535 (by decide) rfl ?_
    refine aw_aload_n dL_law_1537 rfl ?_
    refine aw_aload_n dL_law_1538 rfl ?_
    refine aw_iload dL_law_1539 rfl ?_
    refine aw_ic dL_law_1541 ic_1 ?_
    refine aw_iaddN dL_law_1542 ?_
    refine aw_sld (by omega) hL dL_law_1543 ?_
    refine aw_callV (As := [.int (xs (i + 1))]) (rest := []) (m_X9_best G hM1 hσ (by omega) (xs (i + 1))) kX9_best w_1159 hm1 rfl rfl rfl rfl (Nat.le_of_ble_eq_true rfl) dL_law_1544 ⟨Nat.le_of_ble_eq_true rfl, Nat.le_of_ble_eq_true rfl⟩ ⟨(show ce + 1 + 15 ≤ 641004 by omega), (show sl + 6 + 170 ≤ 7173092 by omega)⟩ (fun v2 h2 n2 p2 hn2 => ?_) (fun E h9 n9 p9 _ => by obtain ⟨e9, -⟩ := p9; cases e9)
    have hv2 : v2 = some (.int (x9)) := by have e9 := p2.1; rw [hx9] at e9; exact Sum.inl.inj e9
    obtain ⟨own2, I2, pf2, pg2⟩ := I.B hn1 pH pf hg1 (k_best hσ (xs (i + 1))) p2
    rw [hx9] at I2
    have I3 : LInv G own2 h2 n2 q (c + 1) _ (nI 0) := I2
    subst hv2
    obtain ⟨s3, hm3⟩ := I3.1.2.2.1
    refine aw_istore (L' := [(7, .int (x9)), (6, .int (nI (0))), (0, .ref (b)), (1, .ref (q)), (2, .ref (q + 204)), (3, .ref (q + 207)), (4, .ref (q + 208)), (5, .int (nI (i)))]) dL_law_1547 (by decide) rfl ?_
    refine aw_aload_n dL_law_1549 rfl ?_
    refine aw_callVR (As := []) (rest := []) (c_X9_thrown G hm3) kX9_thrown w_746 hm3 rfl rfl rfl rfl (Nat.le_of_ble_eq_true rfl) dL_law_1550 ⟨Nat.le_of_ble_eq_true rfl, Nat.le_of_ble_eq_true rfl⟩ ⟨(show ce + 1 + 15 + 0 ≤ 641004 by omega), (show sl + 6 + 170 + 0 ≤ 7173092 by omega)⟩ ?_
    refine aw_iload dL_law_1553 rfl ?_
    refine aw_icmp_eqN (tgt := 1560) (by omega) (by omega) dL_law_1555 (by decide) (fun cz => ?_) (fun cz => absurd cz (by omega))
    refine aw_iload dL_law_1560 rfl ?_
    refine aw_if_neN (tgt := 1577) (by omega) dL_law_1562 (by decide) (fun cy => absurd cy (by omega)) (fun cy => ?_)
    refine aw_aload_n dL_law_1565 rfl ?_
    refine aw_ic dL_law_1566 ic_0 ?_
    refine aw_laload pf2 (by omega) (by omega) dL_law_1567 ?_
    refine aw_iload dL_law_1568 rfl ?_
    refine aw_i2l dL_law_1570 ?_
    refine aw_lcmp dL_law_1571 ?_
    refine aw_top (show (lg_cmp (f1 0) ((x9)).toInt64) = (nI (0)) from (by rw [pval x9 hx9]; exact lg_self _)) ?_
    refine aw_if_eqN (tgt := 1577) (by omega) dL_law_1572 (by decide) (fun cx => ?_) (fun cx => absurd cx (by omega))
    refine aw_goto (tgt := 1650) dL_law_1577 (by decide) ?_
    refine aw_widen (cells' := ce + 893) (slots' := sl + 10108) (by omega) (by omega) ?_
    refine aw_sub (L' := [(0, .ref (b)), (1, .ref (q)), (2, .ref (q + 204)), (3, .ref (q + 207)), (4, .ref (q + 208)), (5, .int (nI (i)))]) [2, 3, 4, 5, 6, 7] rfl ?_
    exact K _ _ _ _ _ I3
  · skip
    refine aw_aload_n dL_law_1524 rfl ?_
    refine aw_aload_n dL_law_1525 rfl ?_
    refine aw_iload dL_law_1526 rfl ?_
    refine aw_ic dL_law_1528 ic_1 ?_
    refine aw_iaddN dL_law_1529 ?_
    refine aw_sld (by omega) hL dL_law_1530 ?_
    refine aw_aload_n dL_law_1531 rfl ?_
    refine aw_callH (As := [.ref (q), .int (xs (i + 1)), .ref (q + 207)]) (rest := []) (l_best G hH hσ (by omega) (Or.inr (by omega)) hf0 (xs (i + 1))) kL_best w_687 rfl rfl (Nat.le_of_ble_eq_true rfl) dL_law_1532 ⟨Nat.le_of_ble_eq_true rfl, Nat.le_of_ble_eq_true rfl⟩ ⟨(show ce + 1 ≤ 641004 by omega), (show sl + 6 ≤ 7173092 by omega)⟩ (fun v1 h1 n1 p1 hn1 => ?_) (fun E h9 n9 p9 _ => by obtain ⟨e9, -⟩ := p9; cases e9)
    obtain ⟨pv1, -, pH, po, f1, pf, pval⟩ := p1
    have hv1 : v1 = some (.int (nI 1)) := by have e9 := pv1; rw [hx9] at e9; exact Sum.inl.inj e9
    subst hv1
    have hg1 := (po (q + 208) (Or.inr (by omega)) (by omega)).trans hg0
    have hM1 := I.A hn1 (fun b z1 z2 z3 => po b z1 z2)
    obtain ⟨s1, hm1⟩ := hM1.2.2.1
    refine aw_istore (L' := [(6, .int (nI (1))), (0, .ref (b)), (1, .ref (q)), (2, .ref (q + 204)), (3, .ref (q + 207)), (4, .ref (q + 208)), (5, .int (nI (i)))]) dL_law_1535 (by decide) rfl ?_
    refine aw_aload_n dL_law_1537 rfl ?_
    refine aw_aload_n dL_law_1538 rfl ?_
    refine aw_iload dL_law_1539 rfl ?_
    refine aw_ic dL_law_1541 ic_1 ?_
    refine aw_iaddN dL_law_1542 ?_
    refine aw_sld (by omega) hL dL_law_1543 ?_
    refine aw_callV (As := [.int (xs (i + 1))]) (rest := []) (m_X9_best G hM1 hσ (by omega) (xs (i + 1))) kX9_best w_1159 hm1 rfl rfl rfl rfl (Nat.le_of_ble_eq_true rfl) dL_law_1544 ⟨Nat.le_of_ble_eq_true rfl, Nat.le_of_ble_eq_true rfl⟩ ⟨(show ce + 1 + 15 ≤ 641004 by omega), (show sl + 6 + 170 ≤ 7173092 by omega)⟩ (fun v2 h2 n2 p2 hn2 => ?_) (fun E h9 n9 p9 _ => by obtain ⟨e9, -⟩ := p9; cases e9)
    have hv2 : v2 = some (.int (nI (0))) := by have e9 := p2.1; rw [hx9] at e9; exact Sum.inl.inj e9
    obtain ⟨own2, I2, pf2, pg2⟩ := I.B hn1 pH pf hg1 (k_best hσ (xs (i + 1))) p2
    rw [hx9] at I2
    have I3 : LInv G own2 h2 n2 q (c + 1) _ (nI 1) := I2
    subst hv2
    obtain ⟨s3, hm3⟩ := I3.1.2.2.1
    refine aw_istore (L' := [(7, .int (nI (0))), (6, .int (nI (1))), (0, .ref (b)), (1, .ref (q)), (2, .ref (q + 204)), (3, .ref (q + 207)), (4, .ref (q + 208)), (5, .int (nI (i)))]) dL_law_1547 (by decide) rfl ?_
    refine aw_aload_n dL_law_1549 rfl ?_
    refine aw_callVR (As := []) (rest := []) (c_X9_thrown G hm3) kX9_thrown w_746 hm3 rfl rfl rfl rfl (Nat.le_of_ble_eq_true rfl) dL_law_1550 ⟨Nat.le_of_ble_eq_true rfl, Nat.le_of_ble_eq_true rfl⟩ ⟨(show ce + 1 + 15 + 0 ≤ 641004 by omega), (show sl + 6 + 170 + 0 ≤ 7173092 by omega)⟩ ?_
    refine aw_iload dL_law_1553 rfl ?_
    refine aw_icmp_eqN (tgt := 1560) (by omega) (by omega) dL_law_1555 (by decide) (fun cz => ?_) (fun cz => absurd cz (by omega))
    refine aw_iload dL_law_1560 rfl ?_
    refine aw_if_neN (tgt := 1577) (by omega) dL_law_1562 (by decide) (fun cy => ?_) (fun cy => absurd cy (by omega))
    refine aw_goto (tgt := 1650) dL_law_1577 (by decide) ?_
    refine aw_widen (cells' := ce + 893) (slots' := sl + 10108) (by omega) (by omega) ?_
    refine aw_sub (L' := [(0, .ref (b)), (1, .ref (q)), (2, .ref (q + 204)), (3, .ref (q + 207)), (4, .ref (q + 208)), (5, .int (nI (i)))]) [2, 3, 4, 5, 6, 7] rfl ?_
    exact K _ _ _ _ _ I3
set_option maxHeartbeats 4000000 in
set_option maxRecDepth 20000 in
theorem law_riffle (G : aG) {b L q i c nx : Nat} {xs : Nat → Int32} {own : Nat → Nat} {h : aH} {σ : aSg} {th : Int32} {ce sl : Nat} (I : LInv G own h nx q c σ th) (hc9 : c ≤ 511) (hi : i + 5 ≤ L) (hL : L ≤ 2560) (hG : G.2.2.2 < q) (hce : ce + 893 ≤ 641004) (hsl : sl + 10108 ≤ 7173092) (K : ∀ (own1 : Nat → Nat) (h1 : aH) (nx1 : Nat) (σ1 : aSg) (th1 : Int32), LInv G own1 h1 nx1 q (c + 1) σ1 th1 → aw G mL_law [] room_1 (lawQ G b L xs) (ce + 893) (sl + 10108) h1 nx1 1650 [(0, .ref (b)), (1, .ref (q)), (2, .ref (q + 204)), (3, .ref (q + 207)), (4, .ref (q + 208)), (5, .int (nI (i)))] []) : aw G mL_law [] room_1 (lawQ G b L xs) ce sl h nx 1580 [(0, .ref (b)), (1, .ref (q)), (2, .ref (q + 204)), (3, .ref (q + 207)), (4, .ref (q + 208)), (5, .int (nI (i)))] [] := by
  have I0 := I
  obtain ⟨hM, hH, hσ, hO1, ⟨hO2, hO3⟩, ⟨f0, hf0⟩, ⟨g0, hg0⟩, hnx⟩ := I0
  rcases o_riffle σ (xs (i + 1)) with ⟨x9, hx9⟩ | hx9
  · skip
    refine aw_aload_n dL_law_1580 rfl ?_
    refine aw_aload_n dL_law_1581 rfl ?_
    refine aw_iload dL_law_1582 rfl ?_
    refine aw_ic dL_law_1584 ic_1 ?_
    refine aw_iaddN dL_law_1585 ?_
    refine aw_sld (by omega) hL dL_law_1586 ?_
    refine aw_aload_n dL_law_1587 rfl ?_
    refine aw_callH (As := [.ref (q), .int (xs (i + 1)), .ref (q + 207)]) (rest := []) (l_riffle G hH hσ (by omega) (Or.inr (by omega)) hf0 (xs (i + 1))) kL_riffle w_691 rfl rfl (Nat.le_of_ble_eq_true rfl) dL_law_1588 ⟨Nat.le_of_ble_eq_true rfl, Nat.le_of_ble_eq_true rfl⟩ ⟨(show ce + 1 ≤ 641004 by omega), (show sl + 6 ≤ 7173092 by omega)⟩ (fun v1 h1 n1 p1 hn1 => ?_) (fun E h9 n9 p9 _ => by obtain ⟨e9, -⟩ := p9; cases e9)
    obtain ⟨pv1, -, pH, po, f1, pf, pval⟩ := p1
    have hv1 : v1 = some (.int (nI 0)) := by have e9 := pv1; rw [hx9] at e9; exact Sum.inl.inj e9
    subst hv1
    have hg1 := (po (q + 208) (Or.inr (by omega)) (by omega)).trans hg0
    have hM1 := I.A hn1 (fun b z1 z2 z3 => po b z1 z2)
    obtain ⟨s1, hm1⟩ := hM1.2.2.1
    refine aw_istore (L' := [(6, .int (nI (0))), (0, .ref (b)), (1, .ref (q)), (2, .ref (q + 204)), (3, .ref (q + 207)), (4, .ref (q + 208)), (5, .int (nI (i)))]) dL_law_1591 (by decide) rfl ?_
    refine aw_aload_n dL_law_1593 rfl ?_
    refine aw_aload_n dL_law_1594 rfl ?_
    refine aw_iload dL_law_1595 rfl ?_
    refine aw_ic dL_law_1597 ic_1 ?_
    refine aw_iaddN dL_law_1598 ?_
    refine aw_sld (by omega) hL dL_law_1599 ?_
    refine aw_callV (As := [.int (xs (i + 1))]) (rest := []) (m_X9_riffle G hM1 hσ (by omega) (xs (i + 1))) kX9_riffle w_1167 hm1 rfl rfl rfl rfl (Nat.le_of_ble_eq_true rfl) dL_law_1600 ⟨Nat.le_of_ble_eq_true rfl, Nat.le_of_ble_eq_true rfl⟩ ⟨(show ce + 1 + 0 ≤ 641004 by omega), (show sl + 6 + 0 ≤ 7173092 by omega)⟩ (fun v2 h2 n2 p2 hn2 => ?_) (fun E h9 n9 p9 _ => by obtain ⟨e9, -⟩ := p9; cases e9)
    have hv2 : v2 = some (.int (x9)) := by have e9 := p2.1; rw [hx9] at e9; exact Sum.inl.inj e9
    obtain ⟨own2, I2, pf2, pg2⟩ := I.B hn1 pH pf hg1 (k_riffle hσ (xs (i + 1))) p2
    rw [hx9] at I2
    have I3 : LInv G own2 h2 n2 q (c + 1) _ (nI 0) := I2
    subst hv2
    obtain ⟨s3, hm3⟩ := I3.1.2.2.1
    refine aw_istore (L' := [(7, .int (x9)), (6, .int (nI (0))), (0, .ref (b)), (1, .ref (q)), (2, .ref (q + 204)), (3, .ref (q + 207)), (4, .ref (q + 208)), (5, .int (nI (i)))]) dL_law_1603 (by decide) rfl ?_
    refine aw_aload_n dL_law_1605 rfl ?_
    refine aw_callVR (As := []) (rest := []) (c_X9_thrown G hm3) kX9_thrown w_746 hm3 rfl rfl rfl rfl (Nat.le_of_ble_eq_true rfl) dL_law_1606 ⟨Nat.le_of_ble_eq_true rfl, Nat.le_of_ble_eq_true rfl⟩ ⟨(show ce + 1 + 0 + 0 ≤ 641004 by omega), (show sl + 6 + 0 + 0 ≤ 7173092 by omega)⟩ ?_
    refine aw_iload dL_law_1609 rfl ?_
    refine aw_icmp_eqN (tgt := 1616) (by omega) (by omega) dL_law_1611 (by decide) (fun cz => ?_) (fun cz => absurd cz (by omega))
    refine aw_iload dL_law_1616 rfl ?_
    refine aw_if_neN (tgt := 1633) (by omega) dL_law_1618 (by decide) (fun cy => absurd cy (by omega)) (fun cy => ?_)
    refine aw_aload_n dL_law_1621 rfl ?_
    refine aw_ic dL_law_1622 ic_0 ?_
    refine aw_laload pf2 (by omega) (by omega) dL_law_1623 ?_
    refine aw_iload dL_law_1624 rfl ?_
    refine aw_i2l dL_law_1626 ?_
    refine aw_lcmp dL_law_1627 ?_
    refine aw_top (show (lg_cmp (f1 0) ((x9)).toInt64) = (nI (0)) from (by rw [pval x9 hx9]; exact lg_self _)) ?_
    refine aw_if_eqN (tgt := 1633) (by omega) dL_law_1628 (by decide) (fun cx => ?_) (fun cx => absurd cx (by omega))
    refine aw_goto (tgt := 1650) dL_law_1633 (by decide) ?_
    refine aw_widen (cells' := ce + 893) (slots' := sl + 10108) (by omega) (by omega) ?_
    refine aw_sub (L' := [(0, .ref (b)), (1, .ref (q)), (2, .ref (q + 204)), (3, .ref (q + 207)), (4, .ref (q + 208)), (5, .int (nI (i)))]) [2, 3, 4, 5, 6, 7] rfl ?_
    exact K _ _ _ _ _ I3
  · skip
    refine aw_aload_n dL_law_1580 rfl ?_
    refine aw_aload_n dL_law_1581 rfl ?_
    refine aw_iload dL_law_1582 rfl ?_
    refine aw_ic dL_law_1584 ic_1 ?_
    refine aw_iaddN dL_law_1585 ?_
    refine aw_sld (by omega) hL dL_law_1586 ?_
    refine aw_aload_n dL_law_1587 rfl ?_
    refine aw_callH (As := [.ref (q), .int (xs (i + 1)), .ref (q + 207)]) (rest := []) (l_riffle G hH hσ (by omega) (Or.inr (by omega)) hf0 (xs (i + 1))) kL_riffle w_691 rfl rfl (Nat.le_of_ble_eq_true rfl) dL_law_1588 ⟨Nat.le_of_ble_eq_true rfl, Nat.le_of_ble_eq_true rfl⟩ ⟨(show ce + 1 ≤ 641004 by omega), (show sl + 6 ≤ 7173092 by omega)⟩ (fun v1 h1 n1 p1 hn1 => ?_) (fun E h9 n9 p9 _ => by obtain ⟨e9, -⟩ := p9; cases e9)
    obtain ⟨pv1, -, pH, po, f1, pf, pval⟩ := p1
    have hv1 : v1 = some (.int (nI 1)) := by have e9 := pv1; rw [hx9] at e9; exact Sum.inl.inj e9
    subst hv1
    have hg1 := (po (q + 208) (Or.inr (by omega)) (by omega)).trans hg0
    have hM1 := I.A hn1 (fun b z1 z2 z3 => po b z1 z2)
    obtain ⟨s1, hm1⟩ := hM1.2.2.1
    refine aw_istore (L' := [(6, .int (nI (1))), (0, .ref (b)), (1, .ref (q)), (2, .ref (q + 204)), (3, .ref (q + 207)), (4, .ref (q + 208)), (5, .int (nI (i)))]) dL_law_1591 (by decide) rfl ?_
    refine aw_aload_n dL_law_1593 rfl ?_
    refine aw_aload_n dL_law_1594 rfl ?_
    refine aw_iload dL_law_1595 rfl ?_
    refine aw_ic dL_law_1597 ic_1 ?_
    refine aw_iaddN dL_law_1598 ?_
    refine aw_sld (by omega) hL dL_law_1599 ?_
    refine aw_callV (As := [.int (xs (i + 1))]) (rest := []) (m_X9_riffle G hM1 hσ (by omega) (xs (i + 1))) kX9_riffle w_1167 hm1 rfl rfl rfl rfl (Nat.le_of_ble_eq_true rfl) dL_law_1600 ⟨Nat.le_of_ble_eq_true rfl, Nat.le_of_ble_eq_true rfl⟩ ⟨(show ce + 1 + 0 ≤ 641004 by omega), (show sl + 6 + 0 ≤ 7173092 by omega)⟩ (fun v2 h2 n2 p2 hn2 => ?_) (fun E h9 n9 p9 _ => by obtain ⟨e9, -⟩ := p9; cases e9)
    have hv2 : v2 = some (.int (nI (0))) := by have e9 := p2.1; rw [hx9] at e9; exact Sum.inl.inj e9
    obtain ⟨own2, I2, pf2, pg2⟩ := I.B hn1 pH pf hg1 (k_riffle hσ (xs (i + 1))) p2
    rw [hx9] at I2
    have I3 : LInv G own2 h2 n2 q (c + 1) _ (nI 1) := I2
    subst hv2
    obtain ⟨s3, hm3⟩ := I3.1.2.2.1
    refine aw_istore (L' := [(7, .int (nI (0))), (6, .int (nI (1))), (0, .ref (b)), (1, .ref (q)), (2, .ref (q + 204)), (3, .ref (q + 207)), (4, .ref (q + 208)), (5, .int (nI (i)))]) dL_law_1603 (by decide) rfl ?_
    refine aw_aload_n dL_law_1605 rfl ?_
    refine aw_callVR (As := []) (rest := []) (c_X9_thrown G hm3) kX9_thrown w_746 hm3 rfl rfl rfl rfl (Nat.le_of_ble_eq_true rfl) dL_law_1606 ⟨Nat.le_of_ble_eq_true rfl, Nat.le_of_ble_eq_true rfl⟩ ⟨(show ce + 1 + 0 + 0 ≤ 641004 by omega), (show sl + 6 + 0 + 0 ≤ 7173092 by omega)⟩ ?_
    refine aw_iload dL_law_1609 rfl ?_
    refine aw_icmp_eqN (tgt := 1616) (by omega) (by omega) dL_law_1611 (by decide) (fun cz => ?_) (fun cz => absurd cz (by omega))
    refine aw_iload dL_law_1616 rfl ?_
    refine aw_if_neN (tgt := 1633) (by omega) dL_law_1618 (by decide) (fun cy => ?_) (fun cy => absurd cy (by omega))
    refine aw_goto (tgt := 1650) dL_law_1633 (by decide) ?_
    refine aw_widen (cells' := ce + 893) (slots' := sl + 10108) (by omega) (by omega) ?_
    refine aw_sub (L' := [(0, .ref (b)), (1, .ref (q)), (2, .ref (q + 204)), (3, .ref (q + 207)), (4, .ref (q + 208)), (5, .int (nI (i)))]) [2, 3, 4, 5, 6, 7] rfl ?_
    exact K _ _ _ _ _ I3
set_option maxHeartbeats 4000000 in
set_option maxRecDepth 20000 in
theorem law_digest (G : aG) {b L q i c nx : Nat} {xs : Nat → Int32} {own : Nat → Nat} {h : aH} {σ : aSg} {th : Int32} {ce sl : Nat} (I : LInv G own h nx q c σ th) (hc9 : c ≤ 511) (hi : i + 5 ≤ L) (hL : L ≤ 2560) (hG : G.2.2.2 < q) (hce : ce + 893 ≤ 641004) (hsl : sl + 10108 ≤ 7173092) (K : ∀ (own1 : Nat → Nat) (h1 : aH) (nx1 : Nat) (σ1 : aSg) (th1 : Int32), LInv G own1 h1 nx1 q (c + 1) σ1 th1 → aw G mL_law [] room_1 (lawQ G b L xs) (ce + 893) (sl + 10108) h1 nx1 1650 [(0, .ref (b)), (1, .ref (q)), (2, .ref (q + 204)), (3, .ref (q + 207)), (4, .ref (q + 208)), (5, .int (nI (i)))] []) : aw G mL_law [] room_1 (lawQ G b L xs) ce sl h nx 1636 [(0, .ref (b)), (1, .ref (q)), (2, .ref (q + 204)), (3, .ref (q + 207)), (4, .ref (q + 208)), (5, .int (nI (i)))] [] := by
  have I0 := I
  obtain ⟨hM, hH, hσ, hO1, ⟨hO2, hO3⟩, ⟨f0, hf0⟩, ⟨g0, hg0⟩, hnx⟩ := I0
  refine aw_aload_n dL_law_1636 rfl ?_
  refine aw_callVQ (As := []) (rest := []) (c_X6_digest G hH hσ (by omega)) kX6_digest w_119 hH.1 rfl rfl rfl rfl (Nat.le_of_ble_eq_true rfl) dL_law_1637 ⟨Nat.le_of_ble_eq_true rfl, Nat.le_of_ble_eq_true rfl⟩ ⟨(show ce + 0 ≤ 641004 by omega), (show sl + 0 ≤ 7173092 by omega)⟩ (fun v1 h1 n1 p1 hn1 => ?_)
  obtain ⟨rfl, -, po, pH⟩ := p1
  have hM1 := I.A hn1 (fun b z1 z2 z3 => po b z1)
  obtain ⟨s1, hm1⟩ := hM1.2.2.1
  refine aw_aload_n dL_law_1640 rfl ?_
  refine aw_callVQ (As := []) (rest := [.long (digV σ)]) (c_X9_digest G hM1 hσ (by omega)) kX9_digest w_1174 hm1 rfl rfl rfl rfl (Nat.le_of_ble_eq_true rfl) dL_law_1641 ⟨Nat.le_of_ble_eq_true rfl, Nat.le_of_ble_eq_true rfl⟩ ⟨(show ce + 845 ≤ 641004 by omega), (show sl + 9464 ≤ 7173092 by omega)⟩ (fun v2 h2 n2 p2 hn2 => ?_)
  obtain ⟨rfl, x3, hD3⟩ := p2
  have I3 := I.D hn1 po pH hD3
  refine aw_lcmp dL_law_1644 ?_
  refine aw_top (show (lg_cmp (digV σ) (digV σ)) = (nI (0)) from (lg_self _)) ?_
  refine aw_if_eqN (tgt := 1650) (by omega) dL_law_1645 (by decide) (fun cx => ?_) (fun cx => absurd cx (by omega))
  refine aw_widen (cells' := ce + 893) (slots' := sl + 10108) (by omega) (by omega) ?_
  refine aw_sub (L' := [(0, .ref (b)), (1, .ref (q)), (2, .ref (q + 204)), (3, .ref (q + 207)), (4, .ref (q + 208)), (5, .int (nI (i)))]) [0, 1, 2, 3, 4, 5] rfl ?_
  exact K _ _ _ _ _ I3
