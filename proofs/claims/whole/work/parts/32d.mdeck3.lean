/-! ===== the model's Deck: more questions ===== -/
/-- answers v; what is new lies from nx on, nothing else has changed -/
abbrev pN (v : Value) (h : aH) (nx : Nat) : aPost := pQ (fun r h1 n1 => r = some v ∧ nx ≤ n1 ∧ ∀ b, b < nx → h1 b = h b)
theorem CardsAt.keep {h h1 : aH} {d a b sc : Nat} {l : List Nat} (C : CardsAt h d a b l sc) (o1 : h1 d = h d) (o2 : h1 a = h a) (o3 : h1 b = h b) : CardsAt h1 d a b l sc := by
  obtain ⟨f, g, e1, e2, e3, e4⟩ := C
  exact ⟨f, g, o1.trans e1, o2.trans e2, o3.trans e3, e4⟩
theorem msk2 {l : List Nat} {s : Nat} : msk l s 2 2 = 2 ^ 2 - 1 ↔ ¬ l.getD s 0 / 2 % 2 = l.getD (s + 1) 0 / 2 % 2 := by
  have e : msk l s 2 2 = (0 ||| 2 ^ (cd l (s + 0) % 2)) ||| 2 ^ (cd l (s + 1) % 2) := rfl
  rw [e, Nat.add_zero]
  unfold cd
  rcases (show l.getD s 0 / 2 % 2 = 0 ∨ l.getD s 0 / 2 % 2 = 1 by omega) with h1 | h1 <;> rcases (show l.getD (s + 1) 0 / 2 % 2 = 0 ∨ l.getD (s + 1) 0 / 2 % 2 = 1 by omega) with h2 | h2 <;> rw [h1, h2] <;> decide
theorem fol_id {n : Nat} {l : List Nat} (hc : cOk n l) : fol l (idL n) = l := by
  refine l_ext (by rw [fol_len, idL_len]; exact hc.1.symm) (fun i hi => ?_)
  rw [fol_len, idL_len] at hi
  rw [fol_at (by rw [idL_len]; exact hi), idL_at hi, show 2 * i / 2 = i by omega, show 2 * i % 2 = 0 by omega, Nat.xor_zero]
set_option maxHeartbeats 4000000 in
set_option maxRecDepth 20000 in
/-- hasPairs() -/
theorem c_X7_hasPairs (G : aG) {h : aH} {nx dk a b n sc : Nat} {l : List Nat} (hC : CardsAt h dk a b l sc) (hc : cOk n l) (hn : n ≤ 16)  : aMet G mX7_hasPairs 1 0 0 [.ref (dk)] h nx (pI (bI (grps l n 2)) h nx) := by
  have hC0 := hC
  have hln := hc.1
  refine aMet_of rfl (Nat.le_of_ble_eq_true rfl) ?_
  show aw G mX7_hasPairs [] (aRoom 1 0 0) (aEnd G (pI (bI (grps l n 2)) h nx) 0 0) 0 0 h nx 0 [(0, .ref (dk))] []
  obtain ⟨y_1f, y_1g, y_11, y_12, y_13, y_1v⟩ := hC
  refine aw_ic dX7_hasPairs_0 ic_0 ?_
  refine aw_istore_n (L' := [(1, .int (nI (0))), (0, .ref (dk))]) dX7_hasPairs_1 (by decide) rfl ?_
  have K : ∀ (d : Nat) (i k : Nat), l.length - i < d → (i = 2 * k ∧ i ≤ l.length) → (∀ t, t < k → msk l (2 * t) 2 2 = 2 ^ 2 - 1) → aw G mX7_hasPairs [] (aRoom 1 0 0) (aEnd G (pI (bI (grps l n 2)) h nx) 0 0) 0 0 h nx 2 [(0, .ref (dk)), (1, .int (nI (i)))] [] := by
    intro d
    induction d with
    | zero => intro i k hMd; exact absurd hMd (Nat.not_lt_zero _)
    | succ d ih =>
      intro i k hMd hi ha
      refine aw_iload_n dX7_hasPairs_2 rfl ?_
      refine aw_ic dX7_hasPairs_3 ic_1 ?_
      refine aw_iaddN dX7_hasPairs_4 ?_
      refine aw_aload_n dX7_hasPairs_5 rfl ?_
      refine aw_callVR (As := []) (rest := [.int (nI (i + 1))]) (c_X7_size G hC0 hc hn) kX7_size w_911 y_11 rfl rfl rfl rfl (Nat.le_of_ble_eq_true rfl) dX7_hasPairs_6 ⟨Nat.le_of_ble_eq_true rfl, Nat.le_of_ble_eq_true rfl⟩ ⟨Nat.le_of_ble_eq_true rfl, Nat.le_of_ble_eq_true rfl⟩ ?_
      refine aw_icmp_geN (tgt := 41) (by omega) (by omega) dX7_hasPairs_9 (by decide) (fun c1 => ?_) (fun c1 => ?_)
      · skip
        refine aw_ic dX7_hasPairs_41 ic_1 ?_
        exact aw_zreturn dX7_hasPairs_42 rfl (bI_nar true) ⟨r_t (decide_eq_true (fun t h1 h2 => ha t (by omega))), rfl, rfl⟩ (Nat.le_of_ble_eq_true rfl) (Nat.le_of_ble_eq_true rfl)
      · skip
        have hci := hc.2 i (by omega)
        have hcj := hc.2 (i + 1) (by omega)
        refine aw_aload_n dX7_hasPairs_12 rfl ?_
        refine aw_get 0 y_11 rfl rfl (by decide) w_773 rfl dX7_hasPairs_13 ?_
        refine aw_iload_n dX7_hasPairs_16 rfl ?_
        refine aw_iaload y_12 (by omega) (by omega) dX7_hasPairs_17 ?_
        refine aw_top (show (y_1f i) = (nI (l.getD i 0 / 2)) from (y_1v i (by omega)).1) ?_
        refine aw_ic dX7_hasPairs_18 ic_2 ?_
        refine aw_iremN (by omega) (by omega) (by omega) dX7_hasPairs_19 ?_
        refine aw_aload_n dX7_hasPairs_20 rfl ?_
        refine aw_get 0 y_11 rfl rfl (by decide) w_773 rfl dX7_hasPairs_21 ?_
        refine aw_iload_n dX7_hasPairs_24 rfl ?_
        refine aw_ic dX7_hasPairs_25 ic_1 ?_
        refine aw_iaddN dX7_hasPairs_26 ?_
        refine aw_iaload y_12 (by omega) (by omega) dX7_hasPairs_27 ?_
        refine aw_top (show (y_1f (i + 1)) = (nI (l.getD (i + 1) 0 / 2)) from (y_1v (i + 1) (by omega)).1) ?_
        refine aw_ic dX7_hasPairs_28 ic_2 ?_
        refine aw_iremN (by omega) (by omega) (by omega) dX7_hasPairs_29 ?_
        refine aw_icmp_neN (tgt := 35) (by omega) (by omega) dX7_hasPairs_30 (by decide) (fun c2 => ?_) (fun c2 => ?_)
        · skip
          refine aw_iincN (k := 2) (L' := [(1, .int (nI (i + 2))), (0, .ref (dk))]) dX7_hasPairs_35 (by decide) rfl (by decide) rfl ?_
          refine aw_goto (tgt := 2) dX7_hasPairs_38 (by decide) ?_
          refine aw_sub (L' := [(0, .ref (dk)), (1, .int (nI (i + 2)))]) [1, 0] rfl ?_
          exact ih (i + 2) (k + 1) (by omega) ⟨by omega, by omega⟩ (le_s ha (msk2.mpr (by rw [← hi.1]; exact c2)))
        · skip
          refine aw_ic dX7_hasPairs_33 ic_0 ?_
          exact aw_zreturn dX7_hasPairs_34 rfl (bI_nar false) ⟨r_f (decide_eq_false (fun q => by have := msk2.mp (q k (by omega) (by omega)); rw [← hi.1] at this; exact this c2)), rfl, rfl⟩ (Nat.le_of_ble_eq_true rfl) (Nat.le_of_ble_eq_true rfl)
  refine aw_sub (L' := [(0, .ref (dk)), (1, .int (nI (0)))]) [1, 0] rfl ?_
  exact K (l.length + 1) 0 0 (by omega) ⟨rfl, Nat.zero_le _⟩ (fun k hk => absurd hk (Nat.not_lt_zero _))
set_option maxHeartbeats 4000000 in
set_option maxRecDepth 20000 in
/-- hasFours() -/
theorem c_X7_hasFours (G : aG) {h : aH} {nx dk a b n sc : Nat} {l : List Nat} (hC : CardsAt h dk a b l sc) (hc : cOk n l) (hn : n ≤ 16)  : aMet G mX7_hasFours 1 0 0 [.ref (dk)] h nx (pI (bI (grps l n 4)) h nx) := by
  have hC0 := hC
  have hln := hc.1
  refine aMet_of rfl (Nat.le_of_ble_eq_true rfl) ?_
  show aw G mX7_hasFours [] (aRoom 1 0 0) (aEnd G (pI (bI (grps l n 4)) h nx) 0 0) 0 0 h nx 0 [(0, .ref (dk))] []
  obtain ⟨y_1f, y_1g, y_11, y_12, y_13, y_1v⟩ := hC
  refine aw_ic dX7_hasFours_0 ic_0 ?_
  refine aw_istore_n (L' := [(1, .int (nI (0))), (0, .ref (dk))]) dX7_hasFours_1 (by decide) rfl ?_
  have K : ∀ (d : Nat) (i k : Nat), l.length + 4 - i < d → (i = 4 * k ∧ i ≤ l.length) → (∀ t, t < k → msk l (4 * t) 4 4 = 2 ^ 4 - 1) → aw G mX7_hasFours [] (aRoom 1 0 0) (aEnd G (pI (bI (grps l n 4)) h nx) 0 0) 0 0 h nx 2 [(0, .ref (dk)), (1, .int (nI (i)))] [] := by
    intro d
    induction d with
    | zero => intro i k hMd; exact absurd hMd (Nat.not_lt_zero _)
    | succ d ih =>
      intro i k hMd hi ha
      refine aw_iload_n dX7_hasFours_2 rfl ?_
      refine aw_ic dX7_hasFours_3 ic_3 ?_
      refine aw_iaddN dX7_hasFours_4 ?_
      refine aw_aload_n dX7_hasFours_5 rfl ?_
      refine aw_callVR (As := []) (rest := [.int (nI (i + 3))]) (c_X7_size G hC0 hc hn) kX7_size w_911 y_11 rfl rfl rfl rfl (Nat.le_of_ble_eq_true rfl) dX7_hasFours_6 ⟨Nat.le_of_ble_eq_true rfl, Nat.le_of_ble_eq_true rfl⟩ ⟨Nat.le_of_ble_eq_true rfl, Nat.le_of_ble_eq_true rfl⟩ ?_
      refine aw_icmp_geN (tgt := 56) (by omega) (by omega) dX7_hasFours_9 (by decide) (fun c1 => ?_) (fun c1 => ?_)
      · skip
        refine aw_ic dX7_hasFours_56 ic_1 ?_
        exact aw_zreturn dX7_hasFours_57 rfl (bI_nar true) ⟨r_t (decide_eq_true (fun t h1 h2 => ha t (by omega))), rfl, rfl⟩ (Nat.le_of_ble_eq_true rfl) (Nat.le_of_ble_eq_true rfl)
      · skip
        refine aw_ic dX7_hasFours_12 ic_0 ?_
        refine aw_istore_n (L' := [(2, .int (nI (0))), (0, .ref (dk)), (1, .int (nI (i)))]) dX7_hasFours_13 (by decide) rfl ?_
        refine aw_iload_n dX7_hasFours_14 rfl ?_
        refine aw_istore_n (L' := [(3, .int (nI (i))), (2, .int (nI (0))), (0, .ref (dk)), (1, .int (nI (i)))]) dX7_hasFours_15 (by decide) rfl ?_
        have ihO := ih
        have K2 : ∀ (d : Nat) (m p j : Nat), 4 - j < d → (p = 4 * k + j ∧ j ≤ 4) → (m = msk l (4 * k) 4 j) → aw G mX7_hasFours [] (aRoom 1 0 0) (aEnd G (pI (bI (grps l n 4)) h nx) 0 0) 0 0 h nx 16 [(0, .ref (dk)), (1, .int (nI (i))), (2, .int (nI (m))), (3, .int (nI (p)))] [] := by
          intro d
          induction d with
          | zero => intro m p j hMd; exact absurd hMd (Nat.not_lt_zero _)
          | succ d ih =>
            intro m p j hMd hj hm
            have hml := msk_lt (l := l) (s := 4 * k) (g := 4) (by omega) j
            refine aw_iload_n dX7_hasFours_16 rfl ?_
            refine aw_iload_n dX7_hasFours_17 rfl ?_
            refine aw_ic dX7_hasFours_18 ic_4 ?_
            refine aw_iaddN dX7_hasFours_19 ?_
            refine aw_icmp_geN (tgt := 42) (by omega) (by omega) dX7_hasFours_20 (by decide) (fun c2 => ?_) (fun c2 => ?_)
            · skip
              have e2 : j = 4 := by omega
              rw [e2] at hm hml
              refine aw_iload_n dX7_hasFours_42 rfl ?_
              refine aw_bp (v := 15) dX7_hasFours_43 (by decide) ?_
              refine aw_icmp_eqN (tgt := 50) (by omega) (by omega) dX7_hasFours_45 (by decide) (fun c3 => ?_) (fun c3 => ?_)
              · skip
                refine aw_iincN (k := 4) (L' := [(1, .int (nI (i + 4))), (0, .ref (dk)), (2, .int (nI (m))), (3, .int (nI (p)))]) dX7_hasFours_50 (by decide) rfl (by decide) rfl ?_
                refine aw_goto (tgt := 2) dX7_hasFours_53 (by decide) ?_
                refine aw_sub (L' := [(0, .ref (dk)), (1, .int (nI (i + 4)))]) [1, 0] rfl ?_
                exact ihO (i + 4) (k + 1) (by omega) ⟨by omega, by omega⟩ (le_s ha (by rw [← hm, c3]))
              · skip
                refine aw_ic dX7_hasFours_48 ic_0 ?_
                exact aw_zreturn dX7_hasFours_49 rfl (bI_nar false) ⟨r_f (decide_eq_false (fun q => c3 (by rw [hm]; exact q k (by omega) (by omega)))), rfl, rfl⟩ (Nat.le_of_ble_eq_true rfl) (Nat.le_of_ble_eq_true rfl)
            · skip
              have hcp := hc.2 p (by omega)
              have hrm : l.getD p 0 / 2 % 4 < 4 := Nat.mod_lt _ (by omega)
              refine aw_iload_n dX7_hasFours_23 rfl ?_
              refine aw_ic dX7_hasFours_24 ic_1 ?_
              refine aw_aload_n dX7_hasFours_25 rfl ?_
              refine aw_get 0 y_11 rfl rfl (by decide) w_773 rfl dX7_hasFours_26 ?_
              refine aw_iload_n dX7_hasFours_29 rfl ?_
              refine aw_iaload y_12 (by omega) (by omega) dX7_hasFours_30 ?_
              refine aw_top (show (y_1f p) = (nI (l.getD p 0 / 2)) from (y_1v p (by omega)).1) ?_
              refine aw_ic dX7_hasFours_31 ic_4 ?_
              refine aw_iremN (by omega) (by omega) (by omega) dX7_hasFours_32 ?_
              refine aw_ishl dX7_hasFours_33 ?_
              refine aw_top (show ((nI (1)) <<< ((nI ((l.getD p 0 / 2) % 4)) &&& 31)) = (nI (2 ^ (l.getD p 0 / 2 % 4))) from n_shl1 _ (by omega)) ?_
              refine aw_ior dX7_hasFours_34 ?_
              refine aw_top (show ((nI (m)) ||| (nI (2 ^ (l.getD p 0 / 2 % 4)))) = (nI (m ||| 2 ^ (l.getD p 0 / 2 % 4))) from n_or _ _) ?_
              refine aw_istore_n (L' := [(2, .int (nI (m ||| 2 ^ (l.getD p 0 / 2 % 4)))), (0, .ref (dk)), (1, .int (nI (i))), (3, .int (nI (p)))]) dX7_hasFours_35 (by decide) rfl ?_
              refine aw_iincN (k := 1) (L' := [(3, .int (nI (p + 1))), (2, .int (nI (m ||| 2 ^ (l.getD p 0 / 2 % 4)))), (0, .ref (dk)), (1, .int (nI (i)))]) dX7_hasFours_36 (by decide) rfl (by decide) rfl ?_
              refine aw_goto (tgt := 16) dX7_hasFours_39 (by decide) ?_
              refine aw_sub (L' := [(0, .ref (dk)), (1, .int (nI (i))), (2, .int (nI (m ||| 2 ^ (l.getD p 0 / 2 % 4)))), (3, .int (nI (p + 1)))]) [2, 3, 1, 0] rfl ?_
              exact ih _ (p + 1) (j + 1) (by omega) ⟨by omega, by omega⟩ (by rw [hm, hj.1]; rfl)
        refine aw_sub (L' := [(0, .ref (dk)), (1, .int (nI (i))), (2, .int (nI (0))), (3, .int (nI (i)))]) [2, 3, 1, 0] rfl ?_
        exact K2 5 0 i 0 (by omega) ⟨by omega, by omega⟩ rfl
  refine aw_sub (L' := [(0, .ref (dk)), (1, .int (nI (0)))]) [1, 0] rfl ?_
  exact K (l.length + 5) 0 0 (by omega) ⟨rfl, Nat.zero_le _⟩ (fun k hk => absurd hk (Nat.not_lt_zero _))
set_option maxHeartbeats 4000000 in
set_option maxRecDepth 20000 in
/-- isWhole() -/
theorem c_X7_isWhole (G : aG) {h : aH} {nx dk a b n sc : Nat} {l : List Nat} (hC : CardsAt h dk a b l sc) (hc : cOk n l) (hn : n ≤ 16)  (h0 : 0 < n) : aMet G mX7_isWhole 1 0 0 [.ref (dk)] h nx (pI (bI (whol l n)) h nx) := by
  have hC0 := hC
  have e1 := hc.1
  subst e1
  refine aMet_of rfl (Nat.le_of_ble_eq_true rfl) ?_
  show aw G mX7_isWhole [] (aRoom 1 0 0) (aEnd G (pI (bI (whol l l.length)) h nx) 0 0) 0 0 h nx 0 [(0, .ref (dk))] []
  obtain ⟨y_1f, y_1g, y_11, y_12, y_13, y_1v⟩ := hC
  refine aw_aload_n dX7_isWhole_0 rfl ?_
  refine aw_get 0 y_11 rfl rfl (by decide) w_773 rfl dX7_isWhole_1 ?_
  refine aw_ic dX7_isWhole_4 ic_0 ?_
  refine aw_iaload y_12 (by omega) (by omega) dX7_isWhole_5 ?_
  have hc00 := hc.2 0 h0
  refine aw_top (show (y_1f 0) = (nI (l.getD 0 0 / 2)) from (y_1v 0 h0).1) ?_
  refine aw_istore_n (L' := [(1, .int (nI (l.getD 0 0 / 2))), (0, .ref (dk))]) dX7_isWhole_6 (by decide) rfl ?_
  refine aw_iload_n dX7_isWhole_7 rfl ?_
  refine aw_istore_n (L' := [(2, .int (nI (l.getD 0 0 / 2))), (1, .int (nI (l.getD 0 0 / 2))), (0, .ref (dk))]) dX7_isWhole_8 (by decide) rfl ?_
  refine aw_ic dX7_isWhole_9 ic_1 ?_
  refine aw_istore_n (L' := [(3, .int (nI (1))), (2, .int (nI (l.getD 0 0 / 2))), (1, .int (nI (l.getD 0 0 / 2))), (0, .ref (dk))]) dX7_isWhole_10 (by decide) rfl ?_
  have K : ∀ (d : Nat) (p q i : Nat), l.length - i < d → (1 ≤ i ∧ i ≤ l.length) → (p = mnp l (i - 1)) → (q = mxp l (i - 1)) → (∀ k, k < i → mxp l k - mnp l k = k) → aw G mX7_isWhole [] (aRoom 1 0 0) (aEnd G (pI (bI (whol l l.length)) h nx) 0 0) 0 0 h nx 11 [(0, .ref (dk)), (1, .int (nI (p))), (2, .int (nI (q))), (3, .int (nI (i)))] [] := by
    intro d
    induction d with
    | zero => intro p q i hMd; exact absurd hMd (Nat.not_lt_zero _)
    | succ d ih =>
      intro p q i hMd hi hA hB ha
      have q1 := mnp_le (l := l) (i - 1)
      have q2 := mxp_lt hc (i - 1) (by omega)
      refine aw_iload_n dX7_isWhole_11 rfl ?_
      refine aw_aload_n dX7_isWhole_12 rfl ?_
      refine aw_callVR (As := []) (rest := [.int (nI (i))]) (c_X7_size G hC0 hc hn) kX7_size w_911 y_11 rfl rfl rfl rfl (Nat.le_of_ble_eq_true rfl) dX7_isWhole_13 ⟨Nat.le_of_ble_eq_true rfl, Nat.le_of_ble_eq_true rfl⟩ ⟨Nat.le_of_ble_eq_true rfl, Nat.le_of_ble_eq_true rfl⟩ ?_
      refine aw_icmp_geN (tgt := 56) (by omega) (by omega) dX7_isWhole_16 (by decide) (fun c1 => ?_) (fun c1 => ?_)
      · skip
        refine aw_ic dX7_isWhole_56 ic_1 ?_
        exact aw_zreturn dX7_isWhole_57 rfl (bI_nar true) ⟨r_t (decide_eq_true (fun k hk => ha k (by omega))), rfl, rfl⟩ (Nat.le_of_ble_eq_true rfl) (Nat.le_of_ble_eq_true rfl)
      · skip
        have hci := hc.2 i c1
        have q3 := mnp_le (l := l) i
        have q4 := mxp_lt hc i c1
        have u1 : min p (l.getD i 0 / 2) = mnp l i := by obtain ⟨j, rfl⟩ : ∃ j, i = j + 1 := ⟨i - 1, by omega⟩; rw [hA]; rfl
        have u2 : max q (l.getD i 0 / 2) = mxp l i := by obtain ⟨j, rfl⟩ : ∃ j, i = j + 1 := ⟨i - 1, by omega⟩; rw [hB]; rfl
        refine aw_iload_n dX7_isWhole_19 rfl ?_
        refine aw_aload_n dX7_isWhole_20 rfl ?_
        refine aw_get 0 y_11 rfl rfl (by decide) w_773 rfl dX7_isWhole_21 ?_
        refine aw_iload_n dX7_isWhole_24 rfl ?_
        refine aw_iaload y_12 (by omega) (by omega) dX7_isWhole_25 ?_
        refine aw_top (show (y_1f i) = (nI (l.getD i 0 / 2)) from (y_1v i c1).1) ?_
        refine aw_min w_1089 w_282 w_16 w_283 (Nat.le_of_ble_eq_true rfl) (Nat.le_of_ble_eq_true rfl) (Nat.le_of_ble_eq_true rfl) (Nat.le_of_ble_eq_true rfl) dX7_isWhole_26 ?_
        refine aw_top (show (if (nI (l.getD i 0 / 2)) < (nI (p)) then (nI (l.getD i 0 / 2)) else (nI (p))) = (nI (mnp l i)) from by rw [n_min _ _ (by omega) (by omega), u1]) ?_
        refine aw_istore_n (L' := [(1, .int (nI (mnp l i))), (0, .ref (dk)), (2, .int (nI (q))), (3, .int (nI (i)))]) dX7_isWhole_29 (by decide) rfl ?_
        refine aw_iload_n dX7_isWhole_30 rfl ?_
        refine aw_aload_n dX7_isWhole_31 rfl ?_
        refine aw_get 0 y_11 rfl rfl (by decide) w_773 rfl dX7_isWhole_32 ?_
        refine aw_iload_n dX7_isWhole_35 rfl ?_
        refine aw_iaload y_12 (by omega) (by omega) dX7_isWhole_36 ?_
        refine aw_top (show (y_1f i) = (nI (l.getD i 0 / 2)) from (y_1v i c1).1) ?_
        refine aw_max w_1043 w_315 w_16 w_316 (Nat.le_of_ble_eq_true rfl) (Nat.le_of_ble_eq_true rfl) (Nat.le_of_ble_eq_true rfl) (Nat.le_of_ble_eq_true rfl) dX7_isWhole_37 ?_
        refine aw_top (show (if (nI (q)) < (nI (l.getD i 0 / 2)) then (nI (l.getD i 0 / 2)) else (nI (q))) = (nI (mxp l i)) from by rw [n_max _ _ (by omega) (by omega), u2]) ?_
        refine aw_istore_n (L' := [(2, .int (nI (mxp l i))), (1, .int (nI (mnp l i))), (0, .ref (dk)), (3, .int (nI (i)))]) dX7_isWhole_40 (by decide) rfl ?_
        refine aw_iload_n dX7_isWhole_41 rfl ?_
        refine aw_iload_n dX7_isWhole_42 rfl ?_
        refine aw_isubN (by omega) dX7_isWhole_43 ?_
        refine aw_iload_n dX7_isWhole_44 rfl ?_
        refine aw_icmp_eqN (tgt := 50) (by omega) (by omega) dX7_isWhole_45 (by decide) (fun c2 => ?_) (fun c2 => ?_)
        · skip
          refine aw_iincN (k := 1) (L' := [(3, .int (nI (i + 1))), (2, .int (nI (mxp l i))), (1, .int (nI (mnp l i))), (0, .ref (dk))]) dX7_isWhole_50 (by decide) rfl (by decide) rfl ?_
          refine aw_goto (tgt := 11) dX7_isWhole_53 (by decide) ?_
          refine aw_sub (L' := [(0, .ref (dk)), (1, .int (nI (mnp l i))), (2, .int (nI (mxp l i))), (3, .int (nI (i + 1)))]) [3, 2, 1, 0] rfl ?_
          exact ih _ _ (i + 1) (by omega) (by omega) rfl rfl (le_s ha c2)
        · skip
          refine aw_ic dX7_isWhole_48 ic_0 ?_
          exact aw_zreturn dX7_isWhole_49 rfl (bI_nar false) ⟨r_f (decide_eq_false (fun h => c2 (h i c1))), rfl, rfl⟩ (Nat.le_of_ble_eq_true rfl) (Nat.le_of_ble_eq_true rfl)
  refine aw_sub (L' := [(0, .ref (dk)), (1, .int (nI (l.getD 0 0 / 2))), (2, .int (nI (l.getD 0 0 / 2))), (3, .int (nI (1)))]) [3, 2, 1, 0] rfl ?_
  exact K (l.length + 1) _ _ 1 (by omega) (by omega) rfl rfl (fun k hk => by rw [show k = 0 by omega]; simp [mxp, mnp])
set_option maxHeartbeats 4000000 in
set_option maxRecDepth 20000 in
/-- ups() -/
theorem c_X7_ups (G : aG) {h : aH} {nx dk a b n sc : Nat} {l : List Nat} (hC : CardsAt h dk a b l sc) (hc : cOk n l) (hn : n ≤ 16)  : aMet G mX7_ups 0 0 0 [.ref (dk)] h nx (pI (nI (ups l n)) h nx) := by
  have hln := hc.1
  refine aMet_of rfl (Nat.le_of_ble_eq_true rfl) ?_
  show aw G mX7_ups [] (aRoom 0 0 0) (aEnd G (pI (nI (ups l n)) h nx) 0 0) 0 0 h nx 0 [(0, .ref (dk))] []
  obtain ⟨y_1f, y_1g, y_11, y_12, y_13, y_1v⟩ := hC
  refine aw_ic dX7_ups_0 ic_0 ?_
  refine aw_istore_n (L' := [(1, .int (nI (0))), (0, .ref (dk))]) dX7_ups_1 (by decide) rfl ?_
  refine aw_aload_n dX7_ups_2 rfl ?_
  refine aw_get 1 y_11 rfl rfl (by decide) w_775 rfl dX7_ups_3 ?_
  refine aw_astore_n (L' := [(2, .ref (b)), (1, .int (nI (0))), (0, .ref (dk))]) dX7_ups_6 (by decide) rfl ?_
  refine aw_aload_n dX7_ups_7 rfl ?_
  refine aw_lenZ y_13 dX7_ups_8 ?_
  refine aw_istore_n (L' := [(3, .int (nI (l.length))), (2, .ref (b)), (1, .int (nI (0))), (0, .ref (dk))]) dX7_ups_9 (by decide) rfl ?_
  refine aw_ic dX7_ups_10 ic_0 ?_
  refine aw_istore (L' := [(4, .int (nI (0))), (3, .int (nI (l.length))), (2, .ref (b)), (1, .int (nI (0))), (0, .ref (dk))]) dX7_ups_11 (by decide) rfl ?_
  have K : ∀ (d : Nat) (c i : Nat), l.length - i < d → (i ≤ l.length) → (c = ct (fun i => up l i) i) → aw G mX7_ups [] (aRoom 0 0 0) (aEnd G (pI (nI (ups l n)) h nx) 0 0) 0 0 h nx 13 [(0, .ref (dk)), (1, .int (nI (c))), (2, .ref (b)), (3, .int (nI (l.length))), (4, .int (nI (i)))] [] := by
    intro d
    induction d with
    | zero => intro c i hMd; exact absurd hMd (Nat.not_lt_zero _)
    | succ d ih =>
      intro c i hMd hi hs
      have hct := ct_le (fun i => up l i) i
      refine aw_iload dX7_ups_13 rfl ?_
      refine aw_iload_n dX7_ups_15 rfl ?_
      refine aw_icmp_geN (tgt := 44) (by omega) (by omega) dX7_ups_16 (by decide) (fun c1 => ?_) (fun c1 => ?_)
      · skip
        refine aw_iload_n dX7_ups_44 rfl ?_
        exact aw_ireturn dX7_ups_45 rfl ⟨r_n (by rw [hs, show i = n by omega]; rfl), rfl, rfl⟩ (Nat.le_of_ble_eq_true rfl) (Nat.le_of_ble_eq_true rfl)
      · skip
        refine aw_aload_n dX7_ups_19 rfl ?_
        refine aw_iload dX7_ups_20 rfl ?_
        refine aw_zaload y_13 (by omega) (by omega) dX7_ups_22 ?_
        refine aw_top (show (y_1g i) = (bI (decide (l.getD i 0 % 2 = 1))) from (y_1v i c1).2) ?_
        refine aw_istore (L' := [(5, .int (bI (decide (l.getD i 0 % 2 = 1)))), (0, .ref (dk)), (1, .int (nI (c))), (2, .ref (b)), (3, .int (nI (l.length))), (4, .int (nI (i)))]) dX7_ups_23 (by decide) rfl ?_
        refine aw_iload_n dX7_ups_25 rfl ?_
        refine aw_iload dX7_ups_26 rfl ?_
        refine aw_if_eqB (tgt := 35) dX7_ups_28 (by decide) (fun c2 => ?_) (fun c2 => ?_)
        · skip
          refine aw_ic dX7_ups_35 ic_0 ?_
          refine aw_iaddN dX7_ups_36 ?_
          refine aw_istore_n (L' := [(1, .int (nI (c + 0))), (5, .int (bI (decide (l.getD i 0 % 2 = 1)))), (0, .ref (dk)), (2, .ref (b)), (3, .int (nI (l.length))), (4, .int (nI (i)))]) dX7_ups_37 (by decide) rfl ?_
          refine aw_iincN (k := 1) (L' := [(4, .int (nI (i + 1))), (1, .int (nI (c + 0))), (5, .int (bI (decide (l.getD i 0 % 2 = 1)))), (0, .ref (dk)), (2, .ref (b)), (3, .int (nI (l.length)))]) dX7_ups_38 (by decide) rfl (by decide) rfl ?_
          refine aw_goto (tgt := 13) dX7_ups_41 (by decide) ?_
          refine aw_sub (L' := [(0, .ref (dk)), (1, .int (nI (c + 0))), (2, .ref (b)), (3, .int (nI (l.length))), (4, .int (nI (i + 1)))]) [3, 1, 4, 5, 0] rfl ?_
          exact ih (c + 0) (i + 1) (by omega) (by omega) (by rw [ct_f (p := (fun i => up l i)) c2]; exact hs)
        · skip
          refine aw_ic dX7_ups_31 ic_1 ?_
          refine aw_goto (tgt := 36) dX7_ups_32 (by decide) ?_
          refine aw_iaddN dX7_ups_36 ?_
          refine aw_istore_n (L' := [(1, .int (nI (c + 1))), (5, .int (bI (decide (l.getD i 0 % 2 = 1)))), (0, .ref (dk)), (2, .ref (b)), (3, .int (nI (l.length))), (4, .int (nI (i)))]) dX7_ups_37 (by decide) rfl ?_
          refine aw_iincN (k := 1) (L' := [(4, .int (nI (i + 1))), (1, .int (nI (c + 1))), (5, .int (bI (decide (l.getD i 0 % 2 = 1)))), (0, .ref (dk)), (2, .ref (b)), (3, .int (nI (l.length)))]) dX7_ups_38 (by decide) rfl (by decide) rfl ?_
          refine aw_goto (tgt := 13) dX7_ups_41 (by decide) ?_
          refine aw_sub (L' := [(0, .ref (dk)), (1, .int (nI (c + 1))), (2, .ref (b)), (3, .int (nI (l.length))), (4, .int (nI (i + 1)))]) [3, 1, 4, 5, 0] rfl ?_
          exact ih (c + 1) (i + 1) (by omega) (by omega) (by rw [ct_t (p := (fun i => up l i)) c2]; omega)
  refine aw_sub (L' := [(0, .ref (dk)), (1, .int (nI (0))), (2, .ref (b)), (3, .int (nI (l.length))), (4, .int (nI (0)))]) [4, 3, 2, 1, 0] rfl ?_
  exact K (l.length + 1) 0 0 (by omega) (Nat.zero_le _) rfl
set_option maxHeartbeats 4000000 in
set_option maxRecDepth 20000 in
/-- inversions(way) -/
theorem c_X7_inversions_ (G : aG) {h : aH} {nx dk a b n sc : Nat} {l : List Nat} (hC : CardsAt h dk a b l sc) (hc : cOk n l) (hn : n ≤ 16) {w : Nat} {s : List Nat} (hW : WayAt h w s) (hs : cOk n s) : aMet G mX7_inversions_ 1 0 0 [.ref (dk), .ref (w)] h nx (pI (nI (invs (fol l s) n)) h nx) := by
  have hC0 := hC
  have hln := hc.1
  have hsn := hs.1
  obtain ⟨y, hy⟩ : ∃ y, y = fol l s := ⟨_, rfl⟩
  have hz : ∀ i, i < l.length → y.getD i 0 / 2 = l.getD (s.getD i 0 / 2) 0 / 2 := fun i hi => by rw [hy]; exact fol_h (by omega)
  rw [← hy]
  refine aMet_of rfl (Nat.le_of_ble_eq_true rfl) ?_
  show aw G mX7_inversions_ [] (aRoom 1 0 0) (aEnd G (pI (nI (invs y n)) h nx) 0 0) 0 0 h nx 0 [(0, .ref (dk)), (1, .ref (w))] []
  obtain ⟨y_1f, y_1g, y_11, y_12, y_13, y_1v⟩ := hC
  obtain ⟨y_2f, y_2g, y_21, y_22, y_23, y_2v⟩ := hW
  refine aw_ic dX7_inversions__0 ic_0 ?_
  refine aw_istore_n (L' := [(2, .int (nI (0))), (0, .ref (dk)), (1, .ref (w))]) dX7_inversions__1 (by decide) rfl ?_
  refine aw_ic dX7_inversions__2 ic_0 ?_
  refine aw_istore_n (L' := [(3, .int (nI (0))), (2, .int (nI (0))), (0, .ref (dk)), (1, .ref (w))]) dX7_inversions__3 (by decide) rfl ?_
  have K : ∀ (d : Nat) (c i : Nat), l.length - i < d → (i ≤ l.length) → (c = sm (fun k => ct (fun j => decide (k < j) && decide (cd y j < cd y k)) n) i) → aw G mX7_inversions_ [] (aRoom 1 0 0) (aEnd G (pI (nI (invs y n)) h nx) 0 0) 0 0 h nx 4 [(0, .ref (dk)), (1, .ref (w)), (2, .int (nI (c))), (3, .int (nI (i)))] [] := by
    intro d
    induction d with
    | zero => intro c i hMd; exact absurd hMd (Nat.not_lt_zero _)
    | succ d ih =>
      intro c i hMd hi hq
      have hb := sm_le (f := (fun k => ct (fun j => decide (k < j) && decide (cd y j < cd y k)) n)) (c := n) (n := i) (fun k _ => ct_le _ n)
      have hb2 : i * n ≤ 16 * 16 := Nat.mul_le_mul (by omega) hn
      refine aw_iload_n dX7_inversions__4 rfl ?_
      refine aw_aload_n dX7_inversions__5 rfl ?_
      refine aw_callVR (As := []) (rest := [.int (nI (i))]) (c_X7_size G hC0 hc hn) kX7_size w_911 y_11 rfl rfl rfl rfl (Nat.le_of_ble_eq_true rfl) dX7_inversions__6 ⟨Nat.le_of_ble_eq_true rfl, Nat.le_of_ble_eq_true rfl⟩ ⟨Nat.le_of_ble_eq_true rfl, Nat.le_of_ble_eq_true rfl⟩ ?_
      refine aw_icmp_geN (tgt := 72) (by omega) (by omega) dX7_inversions__9 (by decide) (fun c1 => ?_) (fun c1 => ?_)
      · skip
        refine aw_iload_n dX7_inversions__72 rfl ?_
        exact aw_ireturn dX7_inversions__73 rfl ⟨r_n (by rw [hq, show i = n by omega]; rfl), rfl, rfl⟩ (Nat.le_of_ble_eq_true rfl) (Nat.le_of_ble_eq_true rfl)
      · skip
        refine aw_iload_n dX7_inversions__12 rfl ?_
        refine aw_ic dX7_inversions__13 ic_1 ?_
        refine aw_iaddN dX7_inversions__14 ?_
        refine aw_istore (L' := [(4, .int (nI (i + 1))), (0, .ref (dk)), (1, .ref (w)), (2, .int (nI (c))), (3, .int (nI (i)))]) dX7_inversions__15 (by decide) rfl ?_
        have ihO := ih
        have hsi := hs.2 i (by omega)
        have hli := hc.lt hsi
        have hzi := hz i c1
        have K2 : ∀ (d : Nat) (m j : Nat), l.length - j < d → (i + 1 ≤ j ∧ j ≤ l.length) → (m = c + ct (fun j => decide (i < j) && decide (cd y j < cd y i)) j) → aw G mX7_inversions_ [] (aRoom 1 0 0) (aEnd G (pI (nI (invs y n)) h nx) 0 0) 0 0 h nx 17 [(0, .ref (dk)), (1, .ref (w)), (2, .int (nI (m))), (3, .int (nI (i))), (4, .int (nI (j)))] [] := by
          intro d
          induction d with
          | zero => intro m j hMd; exact absurd hMd (Nat.not_lt_zero _)
          | succ d ih =>
            intro m j hMd hj hm
            have hct := ct_le (fun j => decide (i < j) && decide (cd y j < cd y i)) j
            refine aw_iload dX7_inversions__17 rfl ?_
            refine aw_aload_n dX7_inversions__19 rfl ?_
            refine aw_callVR (As := []) (rest := [.int (nI (j))]) (c_X7_size G hC0 hc hn) kX7_size w_911 y_11 rfl rfl rfl rfl (Nat.le_of_ble_eq_true rfl) dX7_inversions__20 ⟨Nat.le_of_ble_eq_true rfl, Nat.le_of_ble_eq_true rfl⟩ ⟨Nat.le_of_ble_eq_true rfl, Nat.le_of_ble_eq_true rfl⟩ ?_
            refine aw_icmp_geN (tgt := 66) (by omega) (by omega) dX7_inversions__23 (by decide) (fun c2 => ?_) (fun c2 => ?_)
            · skip
              refine aw_iincN (k := 1) (L' := [(3, .int (nI (i + 1))), (0, .ref (dk)), (1, .ref (w)), (2, .int (nI (m))), (4, .int (nI (j)))]) dX7_inversions__66 (by decide) rfl (by decide) rfl ?_
              refine aw_goto (tgt := 4) dX7_inversions__69 (by decide) ?_
              refine aw_sub (L' := [(0, .ref (dk)), (1, .ref (w)), (2, .int (nI (m))), (3, .int (nI (i + 1)))]) [1, 2, 3, 0] rfl ?_
              exact ihO m (i + 1) (by omega) (by omega) (by rw [hm, show j = n by omega, hq]; rfl)
            · skip
              have hsj := hs.2 j (by omega)
              have hlj := hc.lt hsj
              have hzj := hz j c2
              refine aw_iload_n dX7_inversions__26 rfl ?_
              refine aw_aload_n dX7_inversions__27 rfl ?_
              refine aw_get 0 y_11 rfl rfl (by decide) w_773 rfl dX7_inversions__28 ?_
              refine aw_aload_n dX7_inversions__31 rfl ?_
              refine aw_getN 0 y_21 rfl rfl (by decide) w_886 rfl dX7_inversions__32 ?_
              refine aw_iload_n dX7_inversions__35 rfl ?_
              refine aw_iaload y_22 (by omega) (by omega) dX7_inversions__36 ?_
              refine aw_top (show (y_2f i) = (nI (s.getD i 0 / 2)) from (y_2v i (by omega)).1) ?_
              refine aw_iaload y_12 (by omega) (by omega) dX7_inversions__37 ?_
              refine aw_top (show (y_1f (s.getD i 0 / 2)) = (nI (l.getD (s.getD i 0 / 2) 0 / 2)) from (y_1v _ (by omega)).1) ?_
              refine aw_aload_n dX7_inversions__38 rfl ?_
              refine aw_get 0 y_11 rfl rfl (by decide) w_773 rfl dX7_inversions__39 ?_
              refine aw_aload_n dX7_inversions__42 rfl ?_
              refine aw_getN 0 y_21 rfl rfl (by decide) w_886 rfl dX7_inversions__43 ?_
              refine aw_iload dX7_inversions__46 rfl ?_
              refine aw_iaload y_22 (by omega) (by omega) dX7_inversions__48 ?_
              refine aw_top (show (y_2f j) = (nI (s.getD j 0 / 2)) from (y_2v j (by omega)).1) ?_
              refine aw_iaload y_12 (by omega) (by omega) dX7_inversions__49 ?_
              refine aw_top (show (y_1f (s.getD j 0 / 2)) = (nI (l.getD (s.getD j 0 / 2) 0 / 2)) from (y_1v _ (by omega)).1) ?_
              refine aw_icmp_leN (tgt := 57) (by omega) (by omega) dX7_inversions__50 (by decide) (fun c3 => ?_) (fun c3 => ?_)
              · skip
                refine aw_ic dX7_inversions__57 ic_0 ?_
                refine aw_iaddN dX7_inversions__58 ?_
                refine aw_istore_n (L' := [(2, .int (nI (m + 0))), (0, .ref (dk)), (1, .ref (w)), (3, .int (nI (i))), (4, .int (nI (j)))]) dX7_inversions__59 (by decide) rfl ?_
                refine aw_iincN (k := 1) (L' := [(4, .int (nI (j + 1))), (2, .int (nI (m + 0))), (0, .ref (dk)), (1, .ref (w)), (3, .int (nI (i)))]) dX7_inversions__60 (by decide) rfl (by decide) rfl ?_
                refine aw_goto (tgt := 17) dX7_inversions__63 (by decide) ?_
                refine aw_sub (L' := [(0, .ref (dk)), (1, .ref (w)), (2, .int (nI (m + 0))), (3, .int (nI (i))), (4, .int (nI (j + 1)))]) [2, 3, 1, 4, 0] rfl ?_
                exact ih (m + 0) (j + 1) (by omega) (by omega) (by rw [ct_f (p := (fun j => decide (i < j) && decide (cd y j < cd y i))) (by simp only [cd, Bool.and_eq_false_iff, decide_eq_false_iff_not]; omega)]; exact hm)
              · skip
                refine aw_ic dX7_inversions__53 ic_1 ?_
                refine aw_goto (tgt := 58) dX7_inversions__54 (by decide) ?_
                refine aw_iaddN dX7_inversions__58 ?_
                refine aw_istore_n (L' := [(2, .int (nI (m + 1))), (0, .ref (dk)), (1, .ref (w)), (3, .int (nI (i))), (4, .int (nI (j)))]) dX7_inversions__59 (by decide) rfl ?_
                refine aw_iincN (k := 1) (L' := [(4, .int (nI (j + 1))), (2, .int (nI (m + 1))), (0, .ref (dk)), (1, .ref (w)), (3, .int (nI (i)))]) dX7_inversions__60 (by decide) rfl (by decide) rfl ?_
                refine aw_goto (tgt := 17) dX7_inversions__63 (by decide) ?_
                refine aw_sub (L' := [(0, .ref (dk)), (1, .ref (w)), (2, .int (nI (m + 1))), (3, .int (nI (i))), (4, .int (nI (j + 1)))]) [2, 3, 1, 4, 0] rfl ?_
                exact ih (m + 1) (j + 1) (by omega) (by omega) (by rw [ct_t (p := (fun j => decide (i < j) && decide (cd y j < cd y i))) (by simp only [cd, Bool.and_eq_true, decide_eq_true_eq]; omega)]; omega)
        refine aw_sub (L' := [(0, .ref (dk)), (1, .ref (w)), (2, .int (nI (c))), (3, .int (nI (i))), (4, .int (nI (i + 1)))]) [1, 2, 3, 4, 0] rfl ?_
        exact K2 (l.length - (i + 1) + 1) c (i + 1) (by omega) (by omega) (by rw [ct_0 (fun k hk => by simp; omega)]; rfl)
  refine aw_sub (L' := [(0, .ref (dk)), (1, .ref (w)), (2, .int (nI (0))), (3, .int (nI (0)))]) [2, 3, 1, 0] rfl ?_
  exact K (l.length + 1) 0 0 (by omega) (Nat.zero_le _) rfl
set_option maxHeartbeats 4000000 in
set_option maxRecDepth 20000 in
/-- inversions() -/
theorem c_X7_inversions (G : aG) {h : aH} {nx dk a b n sc : Nat} {l : List Nat} (hC : CardsAt h dk a b l sc) (hc : cOk n l) (hn : n ≤ 16) (hb : dk < nx ∧ a < nx ∧ b < nx)  : aMet G mX7_inversions 2 3 34 [.ref (dk)] h nx (pN (.int (nI (invs l n))) h nx) := by
  have hC0 := hC
  have hln := hc.1
  refine aMet_of rfl (Nat.le_of_ble_eq_true rfl) ?_
  show aw G mX7_inversions [] (aRoom 2 3 34) (aEnd G (pN (.int (nI (invs l n))) h nx) 3 34) 0 0 h nx 0 [(0, .ref (dk))] []
  obtain ⟨y_1f, y_1g, y_11, y_12, y_13, y_1v⟩ := hC
  refine aw_aload_n dX7_inversions_0 rfl ?_
  refine aw_newV (ci := 7) (fs := [.null, .null]) rfl w_1048 w_880 w_24 (by decide +kernel) (Nat.le_of_ble_eq_true rfl) (Nat.le_of_ble_eq_true rfl) dX7_inversions_1 (fun h_1 f_1 o_1 => ?_)
  have f_2 := (o_1 dk (by omega)).trans y_11
  have f_3 := (o_1 a (by omega)).trans y_12
  have f_4 := (o_1 b (by omega)).trans y_13
  refine aw_dup dX7_inversions_4 rfl ?_
  refine aw_aload_n dX7_inversions_5 rfl ?_
  refine aw_callVR (As := []) (rest := [.ref (nx), .ref (nx), .ref (dk)]) (c_X7_size G (hC0.keep (o_1 dk (by omega)) (o_1 a (by omega)) (o_1 b (by omega))) hc hn) kX7_size w_911 f_2 rfl rfl rfl rfl (Nat.le_of_ble_eq_true rfl) dX7_inversions_6 ⟨Nat.le_of_ble_eq_true rfl, Nat.le_of_ble_eq_true rfl⟩ ⟨Nat.le_of_ble_eq_true rfl, Nat.le_of_ble_eq_true rfl⟩ ?_
  refine aw_callIQ (As := [.int (nI (l.length))]) (rest := [.ref (nx), .ref (dk)]) (c_X8_init G f_1 (show l.length ≤ 16 by omega)) kX8_init w_1049 rfl rfl (Nat.le_of_ble_eq_true rfl) dX7_inversions_9 ⟨Nat.le_of_ble_eq_true rfl, Nat.le_of_ble_eq_true rfl⟩ ⟨Nat.le_of_ble_eq_true rfl, Nat.le_of_ble_eq_true rfl⟩ (fun v_1 h_2 n_1 q_1 z_1 => ?_)
  obtain ⟨rfl, rfl, X_1, o_2⟩ := q_1
  refine aw_nx (show _ = nx + 3 from rfl) ?_
  have f_5 := (o_2 dk (by omega)).trans f_2
  have f_6 := (o_2 a (by omega)).trans f_3
  have f_7 := (o_2 b (by omega)).trans f_4
  rw [hln] at X_1
  refine aw_callVR (As := [.ref (nx)]) (rest := []) (c_X7_inversions_ G (hC0.keep ((o_2 dk (by omega)).trans (o_1 dk (by omega))) ((o_2 a (by omega)).trans (o_1 a (by omega))) ((o_2 b (by omega)).trans (o_1 b (by omega)))) hc hn X_1 idL_cOk) kX7_inversions_ w_1050 f_5 rfl rfl rfl rfl (Nat.le_of_ble_eq_true rfl) dX7_inversions_12 ⟨Nat.le_of_ble_eq_true rfl, Nat.le_of_ble_eq_true rfl⟩ ⟨Nat.le_of_ble_eq_true rfl, Nat.le_of_ble_eq_true rfl⟩ ?_
  exact aw_ireturn dX7_inversions_15 rfl ⟨_, rfl, by rw [fol_id hc], by omega, fun b hb => (o_2 b (by omega)).trans (o_1 b (by omega))⟩ (Nat.le_of_ble_eq_true rfl) (Nat.le_of_ble_eq_true rfl)
set_option maxHeartbeats 4000000 in
set_option maxRecDepth 20000 in
/-- isNew() -/
theorem c_X7_isNew (G : aG) {h : aH} {nx dk a b n sc : Nat} {l : List Nat} (hC : CardsAt h dk a b l sc) (hc : cOk n l) (hn : n ≤ 16) (hb : dk < nx ∧ a < nx ∧ b < nx)  : aMet G mX7_isNew 3 3 34 [.ref (dk)] h nx (pN (.int (bI (decide (invs l n = 0)))) h nx) := by
  have hC0 := hC
  have hiv := invs_lt hc hn
  refine aMet_of rfl (Nat.le_of_ble_eq_true rfl) ?_
  show aw G mX7_isNew [] (aRoom 3 3 34) (aEnd G (pN (.int (bI (decide (invs l n = 0)))) h nx) 3 34) 0 0 h nx 0 [(0, .ref (dk))] []
  obtain ⟨y_1f, y_1g, y_11, y_12, y_13, y_1v⟩ := hC
  refine aw_aload_n dX7_isNew_0 rfl ?_
  refine aw_callVQ (As := []) (rest := []) (c_X7_inversions G hC0 hc hn hb) kX7_inversions w_1094 y_11 rfl rfl rfl rfl (Nat.le_of_ble_eq_true rfl) dX7_isNew_1 ⟨Nat.le_of_ble_eq_true rfl, Nat.le_of_ble_eq_true rfl⟩ ⟨Nat.le_of_ble_eq_true rfl, Nat.le_of_ble_eq_true rfl⟩ (fun v_1 h_1 n_1 q_1 z_1 => ?_)
  obtain ⟨rfl, z_1, o_1⟩ := q_1
  have f_1 := (o_1 dk (by omega)).trans y_11
  have f_2 := (o_1 a (by omega)).trans y_12
  have f_3 := (o_1 b (by omega)).trans y_13
  refine aw_if_neN (tgt := 11) (by omega) dX7_isNew_4 (by decide) (fun c1 => ?_) (fun c1 => ?_)
  · skip
    refine aw_ic dX7_isNew_11 ic_0 ?_
    exact aw_zreturn dX7_isNew_12 rfl (bI_nar false) ⟨_, rfl, by rw [decide_eq_false (by omega)]; rfl, by omega, o_1⟩ (Nat.le_of_ble_eq_true rfl) (Nat.le_of_ble_eq_true rfl)
  · skip
    refine aw_ic dX7_isNew_7 ic_1 ?_
    refine aw_goto (tgt := 12) dX7_isNew_8 (by decide) ?_
    exact aw_zreturn dX7_isNew_12 rfl (bI_nar true) ⟨_, rfl, by rw [decide_eq_true (by omega)]; rfl, by omega, o_1⟩ (Nat.le_of_ble_eq_true rfl) (Nat.le_of_ble_eq_true rfl)
