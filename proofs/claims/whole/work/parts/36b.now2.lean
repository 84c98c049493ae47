set_option maxHeartbeats 4000000 in
set_option maxRecDepth 20000 in
/-- bestNow(deck) -/
theorem c_X9_bestNow (G : aG) {h : aH} {nx dk a b n sc : Nat} {l : List Nat} (hC : CardsAt h dk a b l sc) (hc : cOk n l) (hn : n ≤ 16) (hb : dk < nx ∧ a < nx ∧ b < nx) (h2 : 2 ≤ n) : aMet G mX9_bestNow 3 15 170 [.ref (dk)] h nx (pN (.int (bestV l)) h nx) := by
  have hC0 := hC
  have hln := hc.1
  have hxn : 2 ≤ l.length ∧ l.length ≤ 16 := by omega
  refine aMet_of rfl (Nat.le_of_ble_eq_true rfl) ?_
  show aw G mX9_bestNow [] (aRoom 3 15 170) (aEnd G (pN (.int (bestV l)) h nx) 15 170) 0 0 h nx 0 [(0, .ref (dk))] []
  refine aw_iconst dX9_bestNow_0 ic_m1 ?_
  refine aw_istore_n (L' := [(1, .int (-1)), (0, .ref (dk))]) dX9_bestNow_1 (by decide) rfl ?_
  refine aw_ic dX9_bestNow_2 ic_0 ?_
  refine aw_istore_n (L' := [(2, .int (nI (0))), (1, .int (-1)), (0, .ref (dk))]) dX9_bestNow_3 (by decide) rfl ?_
  refine aw_ic dX9_bestNow_4 ic_1 ?_
  refine aw_istore_n (L' := [(3, .int (nI (1))), (2, .int (nI (0))), (1, .int (-1)), (0, .ref (dk))]) dX9_bestNow_5 (by decide) rfl ?_
  have K : ∀ (d : Nat) (k e nx1 : Nat) (z : Int32 × Nat) (h1 : aH), 6 - k < d → (k ≤ 5 ∧ nx ≤ nx1) → (z = bsK l k) → ((z.1 = -1 ∧ z.2 = 2147483647) ∨ (z.1 ≠ -1 ∧ e = z.2 ∧ z.2 < 2147483647)) → (e < 2147483647) → (∀ b, b < nx → h1 b = h b) → aw G mX9_bestNow [] (aRoom 3 15 170) (aEnd G (pN (.int (bestV l)) h nx) 15 170) (3 * k) (34 * k) h1 nx1 6 [(0, .ref (dk)), (1, .int (z.1)), (2, .int (nI (e))), (3, .int (nI (k + 1)))] [] := by
    intro d
    induction d with
    | zero => intro k e nx1 z h1 hMd; exact absurd hMd (Nat.not_lt_zero _)
    | succ d ih =>
      intro k e nx1 z h1 hMd hk hz he he2 ho
      have hCk := hC0.keep (ho dk (by omega)) (ho a (by omega)) (ho b (by omega))
      have hCk0 := hCk
      obtain ⟨y_1f, y_1g, y_11, y_12, y_13, y_1v⟩ := hCk
      refine aw_iload_n dX9_bestNow_6 rfl ?_
      refine aw_ic dX9_bestNow_7 ic_5 ?_
      refine aw_icmp_gtN (tgt := 80) (by omega) (by omega) dX9_bestNow_8 (by decide) (fun c1 => ?_) (fun c1 => ?_)
      · skip
        refine aw_iload_n dX9_bestNow_80 rfl ?_
        exact aw_ireturn dX9_bestNow_81 rfl ⟨_, rfl, by rw [hz, show k = 5 by omega]; rfl, hk.2, ho⟩ (by omega) (by omega)
      · skip
        have hk5 : k + 1 ≤ 5 := by omega
        refine aw_iload_n dX9_bestNow_11 rfl ?_
        refine aw_ic dX9_bestNow_12 ic_5 ?_
        have J : ∀ kn : Nat, kn = (if k + 1 = 5 then 2 else 0) → aw G mX9_bestNow [] (aRoom 3 15 170) (aEnd G (pN (.int (bestV l)) h nx) 15 170) (3 * k) (34 * k) h1 nx1 21 [(0, .ref (dk)), (1, .int (z.1)), (2, .int (nI (e))), (3, .int (nI (k + 1)))] [.int (nI (kn))] := by
          intro kn hkn
          have hkn2 : kn ≤ 2 := by rw [hkn]; split <;> omega
          have tk : (nI (k + 1)).toInt = ((k + 1 : Nat) : Int) := nI_toInt (by omega)
          have tm : (nI kn).toInt = (kn : Int) := nI_toInt (by omega)
          refine aw_istore (L' := [(4, .int (nI (kn))), (0, .ref (dk)), (1, .int (z.1)), (2, .int (nI (e))), (3, .int (nI (k + 1)))]) dX9_bestNow_21 (by decide) rfl ?_
          refine aw_iload_n dX9_bestNow_23 rfl ?_
          refine aw_iload dX9_bestNow_24 rfl ?_
          refine aw_aload_n dX9_bestNow_26 rfl ?_
          refine aw_callVR (As := []) (rest := [.int (nI (kn)), .int (nI (k + 1))]) (c_X7_size G hCk0 hc hn) kX7_size w_868 y_11 rfl rfl rfl rfl (Nat.le_of_ble_eq_true rfl) dX9_bestNow_27 ⟨Nat.le_of_ble_eq_true rfl, Nat.le_of_ble_eq_true rfl⟩ ⟨(show 3 * k + 0 ≤ 15 by omega), (show 34 * k + 0 ≤ 170 by omega)⟩ ?_
          refine aw_callSR (As := [.int (nI (k + 1)), .int (nI (kn)), .int (nI (l.length))]) (rest := []) (c_X9_isShuffle G (nI (k + 1)) (nI kn) hxn) kX9_isShuffle w_872 rfl rfl (Nat.le_of_ble_eq_true rfl) dX9_bestNow_30 ⟨Nat.le_of_ble_eq_true rfl, Nat.le_of_ble_eq_true rfl⟩ ⟨(show 3 * k + 0 ≤ 15 by omega), (show 34 * k + 0 ≤ 170 by omega)⟩ ?_
          refine aw_if_neB (tgt := 39) dX9_bestNow_33 (by decide) (fun c2 => ?_) (fun c2 => ?_)
          · skip
            rw [tk, tm] at c2
            refine aw_aload_n dX9_bestNow_39 rfl ?_
            refine aw_iload_n dX9_bestNow_40 rfl ?_
            refine aw_iload dX9_bestNow_41 rfl ?_
            refine aw_aload_n dX9_bestNow_43 rfl ?_
            refine aw_callVR (As := []) (rest := [.int (nI (kn)), .int (nI (k + 1)), .ref (dk)]) (c_X7_size G hCk0 hc hn) kX7_size w_868 y_11 rfl rfl rfl rfl (Nat.le_of_ble_eq_true rfl) dX9_bestNow_44 ⟨Nat.le_of_ble_eq_true rfl, Nat.le_of_ble_eq_true rfl⟩ ⟨(show 3 * k + 0 ≤ 15 by omega), (show 34 * k + 0 ≤ 170 by omega)⟩ ?_
            refine aw_callSQ (As := [.int (nI (k + 1)), .int (nI (kn)), .int (nI (l.length))]) (rest := [.ref (dk)]) (c_X9_way G (k := k + 1) (m := kn) hxn c2) kX9_way w_876 rfl rfl (Nat.le_of_ble_eq_true rfl) dX9_bestNow_47 ⟨Nat.le_of_ble_eq_true rfl, Nat.le_of_ble_eq_true rfl⟩ ⟨(show 3 * k + 3 ≤ 15 by omega), (show 34 * k + 34 ≤ 170 by omega)⟩ (fun v_1 h_1 n_1 q_1 z_1 => ?_)
            obtain ⟨rfl, rfl, hW, oW⟩ := q_1
            have hCw := hCk0.keep (oW dk (by omega)) (oW a (by omega)) (oW b (by omega))
            have hCw0 := hCw
            obtain ⟨y_2f, y_2g, y_21, y_22, y_23, y_2v⟩ := hCw
            refine aw_callVR (As := [.ref (nx1)]) (rest := []) (c_X7_inversions_ G hCw0 hc hn hW (by have := lay_cOk c2; rw [hln] at this ⊢; exact this)) kX7_inversions_ w_1166 y_21 rfl rfl rfl rfl (Nat.le_of_ble_eq_true rfl) dX9_bestNow_50 ⟨Nat.le_of_ble_eq_true rfl, Nat.le_of_ble_eq_true rfl⟩ ⟨(show 3 * k + 3 + 0 ≤ 15 by omega), (show 34 * k + 34 + 0 ≤ 170 by omega)⟩ ?_
            have hiv := invs_le (l := fol l (layL (k + 1) kn l.length)) (n := n) hn
            obtain ⟨iv, hiv2⟩ : ∃ iv, iv = invs (fol l (layL (k + 1) kn l.length)) n := ⟨_, rfl⟩
            have hiv3 : iv = invs (fol l (layL (k + 1) kn n)) n := by rw [hiv2, hln]
            rw [← hiv2] at hiv ⊢
            refine aw_istore (L' := [(5, .int (nI (iv))), (4, .int (nI (kn))), (0, .ref (dk)), (1, .int (z.1)), (2, .int (nI (e))), (3, .int (nI (k + 1)))]) dX9_bestNow_53 (by decide) rfl ?_
            refine aw_iload_n dX9_bestNow_55 rfl ?_
            refine aw_iconst dX9_bestNow_56 ic_m1 ?_
            have onw : ∀ b, b < nx → h_1 b = h b := fun b hb => (oW b (by omega)).trans (ho b hb)
            have S : (iv < z.2) → aw G mX9_bestNow [] (aRoom 3 15 170) (aEnd G (pN (.int (bestV l)) h nx) 15 170) (3 * k + 3) (34 * k + 34) h_1 (nx1 + 3) 69 [(5, .int (nI (iv))), (4, .int (nI (kn))), (0, .ref (dk)), (1, .int (z.1)), (2, .int (nI (e))), (3, .int (nI (k + 1)))] [] := by
              intro hlt
              refine aw_iload_n dX9_bestNow_69 rfl ?_
              refine aw_istore_n (L' := [(1, .int (nI (k + 1))), (5, .int (nI (iv))), (4, .int (nI (kn))), (0, .ref (dk)), (2, .int (nI (e))), (3, .int (nI (k + 1)))]) dX9_bestNow_70 (by decide) rfl ?_
              refine aw_iload dX9_bestNow_71 rfl ?_
              refine aw_istore_n (L' := [(2, .int (nI (iv))), (1, .int (nI (k + 1))), (5, .int (nI (iv))), (4, .int (nI (kn))), (0, .ref (dk)), (3, .int (nI (k + 1)))]) dX9_bestNow_73 (by decide) rfl ?_
              refine aw_iincN (k := 1) (L' := [(3, .int (nI ((k + 1) + 1))), (2, .int (nI (iv))), (1, .int (nI (k + 1))), (5, .int (nI (iv))), (4, .int (nI (kn))), (0, .ref (dk))]) dX9_bestNow_74 (by decide) rfl (by decide) rfl ?_
              refine aw_goto (tgt := 6) dX9_bestNow_77 (by decide) ?_
              refine aw_widen (cells' := 3 * (k + 1)) (slots' := 34 * (k + 1)) (by omega) (by omega) ?_
              refine aw_sub (L' := [(0, .ref (dk)), (1, .int (nI (k + 1))), (2, .int (nI (iv))), (3, .int (nI ((k + 1) + 1)))]) [5, 2, 1, 0] rfl ?_
              exact ih (k + 1) iv (nx1 + 3) (nI (k + 1), iv) h_1 (by omega) (by omega) (by show _ = bsS l (k + 1) (if k + 1 = 5 then 2 else 0) (bsK l k); unfold bsS; rw [← hkn]; rw [if_pos c2, hln, ← hiv3, ← hz, if_pos hlt]) (Or.inr ⟨(by intro q; have e1 := congrArg Int32.toInt q; rw [tk] at e1; rw [show (-1 : Int32).toInt = -1 from by decide] at e1; omega), rfl, by show iv < _; omega⟩) (by omega) onw
            refine aw_icmp_eq (tgt := 69) dX9_bestNow_57 (by decide) (fun c3 => ?_) (fun c3 => ?_)
            · skip
              exact S (by rcases he with ⟨_, q⟩ | ⟨q, _⟩; omega; exact absurd c3 q)
            · skip
              have he3 : e = z.2 := by rcases he with ⟨q, _⟩ | ⟨_, q, _⟩; exact absurd q c3; exact q
              refine aw_iload dX9_bestNow_60 rfl ?_
              refine aw_iload_n dX9_bestNow_62 rfl ?_
              refine aw_icmp_ltN (tgt := 69) (by omega) (by omega) dX9_bestNow_63 (by decide) (fun c4 => ?_) (fun c4 => ?_)
              · skip
                exact S (by omega)
              · skip
                refine aw_goto (tgt := 74) dX9_bestNow_66 (by decide) ?_
                refine aw_iincN (k := 1) (L' := [(3, .int (nI ((k + 1) + 1))), (5, .int (nI (iv))), (4, .int (nI (kn))), (0, .ref (dk)), (1, .int (z.1)), (2, .int (nI (e)))]) dX9_bestNow_74 (by decide) rfl (by decide) rfl ?_
                refine aw_goto (tgt := 6) dX9_bestNow_77 (by decide) ?_
                refine aw_widen (cells' := 3 * (k + 1)) (slots' := 34 * (k + 1)) (by omega) (by omega) ?_
                refine aw_sub (L' := [(0, .ref (dk)), (1, .int (z.1)), (2, .int (nI (e))), (3, .int (nI ((k + 1) + 1)))]) [3, 4, 5, 0] rfl ?_
                exact ih (k + 1) e (nx1 + 3) z h_1 (by omega) (by omega) (by show _ = bsS l (k + 1) (if k + 1 = 5 then 2 else 0) (bsK l k); unfold bsS; rw [← hkn]; rw [if_pos c2, hln, ← hiv3, ← hz, if_neg (by omega)]) he he2 onw
          · skip
            rw [tk, tm] at c2
            refine aw_goto (tgt := 74) dX9_bestNow_36 (by decide) ?_
            refine aw_iincN (k := 1) (L' := [(3, .int (nI ((k + 1) + 1))), (4, .int (nI (kn))), (0, .ref (dk)), (1, .int (z.1)), (2, .int (nI (e)))]) dX9_bestNow_74 (by decide) rfl (by decide) rfl ?_
            refine aw_goto (tgt := 6) dX9_bestNow_77 (by decide) ?_
            refine aw_widen (cells' := 3 * (k + 1)) (slots' := 34 * (k + 1)) (by omega) (by omega) ?_
            refine aw_sub (L' := [(0, .ref (dk)), (1, .int (z.1)), (2, .int (nI (e))), (3, .int (nI ((k + 1) + 1)))]) [2, 3, 4, 0] rfl ?_
            exact ih (k + 1) e nx1 z h1 (by omega) (by omega) (by show _ = bsS l (k + 1) (if k + 1 = 5 then 2 else 0) (bsK l k); unfold bsS; rw [← hkn]; rw [if_neg (by rw [c2]; decide)]; exact hz) he he2 ho
        refine aw_icmp_neN (tgt := 20) (by omega) (by omega) dX9_bestNow_13 (by decide) (fun c5 => ?_) (fun c5 => ?_)
        · skip
          refine aw_ic dX9_bestNow_20 ic_0 ?_
          exact J 0 (by rw [if_neg c5])
        · skip
          refine aw_ic dX9_bestNow_16 ic_2 ?_
          refine aw_goto (tgt := 21) dX9_bestNow_17 (by decide) ?_
          exact J 2 (by rw [if_pos c5])
  refine aw_sub (L' := [(0, .ref (dk)), (1, .int (-1)), (2, .int (nI (0))), (3, .int (nI (1)))]) [3, 2, 1, 0] rfl ?_
  exact K 7 0 0 nx (-1, 2147483647) h (by omega) ⟨by omega, Nat.le_refl _⟩ rfl (Or.inl ⟨rfl, rfl⟩) (by omega) (fun _ _ => rfl)
set_option maxHeartbeats 4000000 in
set_option maxRecDepth 20000 in
/-- ofDeckNow(deck, u) -/
theorem c_X9_ofDeckNow (G : aG) {h : aH} {nx dk a b n sc : Nat} {l : List Nat} (hC : CardsAt h dk a b l sc) (hc : cOk n l) (hn : n ≤ 16) (hb : dk < nx ∧ a < nx ∧ b < nx) {ps : List (List Nat)} (h2 : 2 ≤ n) (ha : cAll n l) (hsc : sc < 2 ^ 31) {u : Nat} (hu : u ≤ 10) : aMet G mX9_ofDeckNow 18 3 34 [.ref (dk), .int (nI (u))] h nx (pN (.int (nI (ofDk (l, ps, sc) u))) h nx) := by
  have hC0 := hC
  have hln := hc.1
  subst hln
  refine aMet_of rfl (Nat.le_of_ble_eq_true rfl) ?_
  show aw G mX9_ofDeckNow [] (aRoom 18 3 34) (aEnd G (pN (.int (nI (ofDk (l, ps, sc) u))) h nx) 3 34) 0 0 h nx 0 [(0, .ref (dk)), (1, .int (nI (u)))] []
  obtain ⟨y_1f, y_1g, y_11, y_12, y_13, y_1v⟩ := hC
  refine aw_iload_n dX9_ofDeckNow_0 rfl ?_
  rcases (show u = 0 ∨ u = 1 ∨ u = 2 ∨ u = 3 ∨ u = 4 ∨ u = 5 ∨ u = 6 ∨ u = 7 ∨ u = 8 ∨ u = 9 ∨ u = 10 by omega) with rfl | rfl | rfl | rfl | rfl | rfl | rfl | rfl | rfl | rfl | rfl
  · skip
    have hx : (nI 0).toInt = 0 := by decide
    refine aw_tableIn (off := 55) (tgt := 56) dX9_ofDeckNow_1 (by rw [hx]; decide) (by rw [hx]; decide) (by rw [hx]; rfl) (by decide) ?_
    refine aw_aload_n dX9_ofDeckNow_56 rfl ?_
    refine aw_callVR (As := []) (rest := []) (c_X7_size G hC0 hc hn) kX7_size w_868 y_11 rfl rfl rfl rfl (Nat.le_of_ble_eq_true rfl) dX9_ofDeckNow_57 ⟨Nat.le_of_ble_eq_true rfl, Nat.le_of_ble_eq_true rfl⟩ ⟨Nat.le_of_ble_eq_true rfl, Nat.le_of_ble_eq_true rfl⟩ ?_
    exact aw_ireturn dX9_ofDeckNow_60 rfl ⟨_, rfl, rfl, Nat.le_refl _, fun _ _ => rfl⟩ (Nat.le_of_ble_eq_true rfl) (Nat.le_of_ble_eq_true rfl)
  · skip
    have hx : (nI 1).toInt = 1 := by decide
    refine aw_tableIn (off := 60) (tgt := 61) dX9_ofDeckNow_1 (by rw [hx]; decide) (by rw [hx]; decide) (by rw [hx]; rfl) (by decide) ?_
    refine aw_aload_n dX9_ofDeckNow_61 rfl ?_
    refine aw_ic dX9_ofDeckNow_62 ic_0 ?_
    refine aw_callVQ (As := [.int (nI (0))]) (rest := []) (c_X7_cycles G hC0 hc hn hb ha (u := 0) (by omega)) kX7_cycles w_1035 y_11 rfl rfl rfl rfl (Nat.le_of_ble_eq_true rfl) dX9_ofDeckNow_63 ⟨Nat.le_of_ble_eq_true rfl, Nat.le_of_ble_eq_true rfl⟩ ⟨Nat.le_of_ble_eq_true rfl, Nat.le_of_ble_eq_true rfl⟩ (fun v_1 h_1 n_1 q_1 z_1 => ?_)
    obtain ⟨rfl, z_1, o_1⟩ := q_1
    have f_1 := (o_1 dk (by omega)).trans y_11
    have f_2 := (o_1 a (by omega)).trans y_12
    have f_3 := (o_1 b (by omega)).trans y_13
    exact aw_ireturn dX9_ofDeckNow_66 rfl ⟨_, rfl, rfl, by omega, o_1⟩ (Nat.le_of_ble_eq_true rfl) (Nat.le_of_ble_eq_true rfl)
  · skip
    have hx : (nI 2).toInt = 2 := by decide
    refine aw_tableIn (off := 66) (tgt := 67) dX9_ofDeckNow_1 (by rw [hx]; decide) (by rw [hx]; decide) (by rw [hx]; rfl) (by decide) ?_
    refine aw_aload_n dX9_ofDeckNow_67 rfl ?_
    refine aw_ic dX9_ofDeckNow_68 ic_1 ?_
    refine aw_callVQ (As := [.int (nI (1))]) (rest := []) (c_X7_cycles G hC0 hc hn hb ha (u := 1) (by omega)) kX7_cycles w_1035 y_11 rfl rfl rfl rfl (Nat.le_of_ble_eq_true rfl) dX9_ofDeckNow_69 ⟨Nat.le_of_ble_eq_true rfl, Nat.le_of_ble_eq_true rfl⟩ ⟨Nat.le_of_ble_eq_true rfl, Nat.le_of_ble_eq_true rfl⟩ (fun v_2 h_2 n_2 q_2 z_2 => ?_)
    obtain ⟨rfl, z_2, o_2⟩ := q_2
    have f_4 := (o_2 dk (by omega)).trans y_11
    have f_5 := (o_2 a (by omega)).trans y_12
    have f_6 := (o_2 b (by omega)).trans y_13
    exact aw_ireturn dX9_ofDeckNow_72 rfl ⟨_, rfl, rfl, by omega, o_2⟩ (Nat.le_of_ble_eq_true rfl) (Nat.le_of_ble_eq_true rfl)
  · skip
    have hx : (nI 3).toInt = 3 := by decide
    refine aw_tableIn (off := 72) (tgt := 73) dX9_ofDeckNow_1 (by rw [hx]; decide) (by rw [hx]; decide) (by rw [hx]; rfl) (by decide) ?_
    refine aw_aload_n dX9_ofDeckNow_73 rfl ?_
    refine aw_ic dX9_ofDeckNow_74 ic_2 ?_
    refine aw_callVQ (As := [.int (nI (2))]) (rest := []) (c_X7_cycles G hC0 hc hn hb ha (u := 2) (by omega)) kX7_cycles w_1035 y_11 rfl rfl rfl rfl (Nat.le_of_ble_eq_true rfl) dX9_ofDeckNow_75 ⟨Nat.le_of_ble_eq_true rfl, Nat.le_of_ble_eq_true rfl⟩ ⟨Nat.le_of_ble_eq_true rfl, Nat.le_of_ble_eq_true rfl⟩ (fun v_3 h_3 n_3 q_3 z_3 => ?_)
    obtain ⟨rfl, z_3, o_3⟩ := q_3
    have f_7 := (o_3 dk (by omega)).trans y_11
    have f_8 := (o_3 a (by omega)).trans y_12
    have f_9 := (o_3 b (by omega)).trans y_13
    exact aw_ireturn dX9_ofDeckNow_78 rfl ⟨_, rfl, rfl, by omega, o_3⟩ (Nat.le_of_ble_eq_true rfl) (Nat.le_of_ble_eq_true rfl)
  · skip
    have hx : (nI 4).toInt = 4 := by decide
    refine aw_tableIn (off := 78) (tgt := 79) dX9_ofDeckNow_1 (by rw [hx]; decide) (by rw [hx]; decide) (by rw [hx]; rfl) (by decide) ?_
    refine aw_aload_n dX9_ofDeckNow_79 rfl ?_
    refine aw_callVQ (As := []) (rest := []) (c_X7_inversions G hC0 hc hn hb) kX7_inversions w_1044 y_11 rfl rfl rfl rfl (Nat.le_of_ble_eq_true rfl) dX9_ofDeckNow_80 ⟨Nat.le_of_ble_eq_true rfl, Nat.le_of_ble_eq_true rfl⟩ ⟨Nat.le_of_ble_eq_true rfl, Nat.le_of_ble_eq_true rfl⟩ (fun v_4 h_4 n_4 q_4 z_4 => ?_)
    obtain ⟨rfl, z_4, o_4⟩ := q_4
    have f_10 := (o_4 dk (by omega)).trans y_11
    have f_11 := (o_4 a (by omega)).trans y_12
    have f_12 := (o_4 b (by omega)).trans y_13
    exact aw_ireturn dX9_ofDeckNow_83 rfl ⟨_, rfl, rfl, by omega, o_4⟩ (Nat.le_of_ble_eq_true rfl) (Nat.le_of_ble_eq_true rfl)
  · skip
    have hx : (nI 5).toInt = 5 := by decide
    refine aw_tableIn (off := 83) (tgt := 84) dX9_ofDeckNow_1 (by rw [hx]; decide) (by rw [hx]; decide) (by rw [hx]; rfl) (by decide) ?_
    refine aw_aload_n dX9_ofDeckNow_84 rfl ?_
    refine aw_callVR (As := []) (rest := []) (c_X7_runs G hC0 hc hn ha (by omega)) kX7_runs w_1054 y_11 rfl rfl rfl rfl (Nat.le_of_ble_eq_true rfl) dX9_ofDeckNow_85 ⟨Nat.le_of_ble_eq_true rfl, Nat.le_of_ble_eq_true rfl⟩ ⟨Nat.le_of_ble_eq_true rfl, Nat.le_of_ble_eq_true rfl⟩ ?_
    exact aw_ireturn dX9_ofDeckNow_88 rfl ⟨_, rfl, rfl, Nat.le_refl _, fun _ _ => rfl⟩ (Nat.le_of_ble_eq_true rfl) (Nat.le_of_ble_eq_true rfl)
  · skip
    have hx : (nI 6).toInt = 6 := by decide
    refine aw_tableIn (off := 88) (tgt := 89) dX9_ofDeckNow_1 (by rw [hx]; decide) (by rw [hx]; decide) (by rw [hx]; rfl) (by decide) ?_
    refine aw_aload_n dX9_ofDeckNow_89 rfl ?_
    have hrl := runs_le (l := l) (n := l.length)
    refine aw_callVR (As := []) (rest := []) (c_X7_runs G hC0 hc hn ha (by omega)) kX7_runs w_1054 y_11 rfl rfl rfl rfl (Nat.le_of_ble_eq_true rfl) dX9_ofDeckNow_90 ⟨Nat.le_of_ble_eq_true rfl, Nat.le_of_ble_eq_true rfl⟩ ⟨Nat.le_of_ble_eq_true rfl, Nat.le_of_ble_eq_true rfl⟩ ?_
    refine aw_callSR (As := [.int (nI (runs l l.length))]) (rest := []) (c_X9_needed G (t := runs l l.length) (by omega)) kX9_needed w_1059 rfl rfl (Nat.le_of_ble_eq_true rfl) dX9_ofDeckNow_93 ⟨Nat.le_of_ble_eq_true rfl, Nat.le_of_ble_eq_true rfl⟩ ⟨Nat.le_of_ble_eq_true rfl, Nat.le_of_ble_eq_true rfl⟩ ?_
    exact aw_ireturn dX9_ofDeckNow_96 rfl ⟨_, rfl, rfl, Nat.le_refl _, fun _ _ => rfl⟩ (Nat.le_of_ble_eq_true rfl) (Nat.le_of_ble_eq_true rfl)
  · skip
    have hx : (nI 7).toInt = 7 := by decide
    refine aw_tableIn (off := 96) (tgt := 97) dX9_ofDeckNow_1 (by rw [hx]; decide) (by rw [hx]; decide) (by rw [hx]; rfl) (by decide) ?_
    refine aw_aload_n dX9_ofDeckNow_97 rfl ?_
    refine aw_callVR (As := []) (rest := []) (c_X7_ups G hC0 hc hn) kX7_ups w_1062 y_11 rfl rfl rfl rfl (Nat.le_of_ble_eq_true rfl) dX9_ofDeckNow_98 ⟨Nat.le_of_ble_eq_true rfl, Nat.le_of_ble_eq_true rfl⟩ ⟨Nat.le_of_ble_eq_true rfl, Nat.le_of_ble_eq_true rfl⟩ ?_
    exact aw_ireturn dX9_ofDeckNow_101 rfl ⟨_, rfl, rfl, Nat.le_refl _, fun _ _ => rfl⟩ (Nat.le_of_ble_eq_true rfl) (Nat.le_of_ble_eq_true rfl)
  · skip
    have hx : (nI 8).toInt = 8 := by decide
    refine aw_tableIn (off := 101) (tgt := 102) dX9_ofDeckNow_1 (by rw [hx]; decide) (by rw [hx]; decide) (by rw [hx]; rfl) (by decide) ?_
    refine aw_aload_n dX9_ofDeckNow_102 rfl ?_
    refine aw_getN 4 y_11 rfl rfl (by decide) w_780 rfl dX9_ofDeckNow_103 ?_
    exact aw_ireturn dX9_ofDeckNow_106 rfl ⟨_, rfl, rfl, Nat.le_refl _, fun _ _ => rfl⟩ (Nat.le_of_ble_eq_true rfl) (Nat.le_of_ble_eq_true rfl)
  · skip
    have hx : (nI 9).toInt = 9 := by decide
    refine aw_tableIn (off := 106) (tgt := 107) dX9_ofDeckNow_1 (by rw [hx]; decide) (by rw [hx]; decide) (by rw [hx]; rfl) (by decide) ?_
    refine aw_aload_n dX9_ofDeckNow_107 rfl ?_
    refine aw_ic dX9_ofDeckNow_108 ic_3 ?_
    refine aw_callVQ (As := [.int (nI (3))]) (rest := []) (c_X7_cycles G hC0 hc hn hb ha (u := 3) (by omega)) kX7_cycles w_1035 y_11 rfl rfl rfl rfl (Nat.le_of_ble_eq_true rfl) dX9_ofDeckNow_109 ⟨Nat.le_of_ble_eq_true rfl, Nat.le_of_ble_eq_true rfl⟩ ⟨Nat.le_of_ble_eq_true rfl, Nat.le_of_ble_eq_true rfl⟩ (fun v_5 h_5 n_5 q_5 z_5 => ?_)
    obtain ⟨rfl, z_5, o_5⟩ := q_5
    have f_13 := (o_5 dk (by omega)).trans y_11
    have f_14 := (o_5 a (by omega)).trans y_12
    have f_15 := (o_5 b (by omega)).trans y_13
    exact aw_ireturn dX9_ofDeckNow_112 rfl ⟨_, rfl, rfl, by omega, o_5⟩ (Nat.le_of_ble_eq_true rfl) (Nat.le_of_ble_eq_true rfl)
  · skip
    have hx : (nI 10).toInt < 0 ∨ 9 < (nI 10).toInt := by decide
    refine aw_tableOut (tgt := 113) dX9_ofDeckNow_1 hx (by decide) ?_
    refine aw_aload_n dX9_ofDeckNow_113 rfl ?_
    refine aw_callVQ (As := []) (rest := []) (c_X7_climb G hC0 hc hn hb ha) kX7_climb w_1066 y_11 rfl rfl rfl rfl (Nat.le_of_ble_eq_true rfl) dX9_ofDeckNow_114 ⟨Nat.le_of_ble_eq_true rfl, Nat.le_of_ble_eq_true rfl⟩ ⟨Nat.le_of_ble_eq_true rfl, Nat.le_of_ble_eq_true rfl⟩ (fun v_6 h_6 n_6 q_6 z_6 => ?_)
    obtain ⟨rfl, z_6, o_6⟩ := q_6
    have f_16 := (o_6 dk (by omega)).trans y_11
    have f_17 := (o_6 a (by omega)).trans y_12
    have f_18 := (o_6 b (by omega)).trans y_13
    exact aw_ireturn dX9_ofDeckNow_117 rfl ⟨_, rfl, rfl, by omega, o_6⟩ (Nat.le_of_ble_eq_true rfl) (Nat.le_of_ble_eq_true rfl)
set_option maxHeartbeats 4000000 in
set_option maxRecDepth 20000 in
/-- keepsNow(deck, u) -/
theorem c_X9_keepsNow (G : aG) {h : aH} {nx dk a b n sc : Nat} {l : List Nat} (hC : CardsAt h dk a b l sc) (hc : cOk n l) (hn : n ≤ 16) (hb : dk < nx ∧ a < nx ∧ b < nx) {ps : List (List Nat)} (h2 : 2 ≤ n) (ha : cAll n l) (hsc : sc < 2 ^ 31) {u : Nat} (hu : u ≤ 5) : aMet G mX9_keepsNow 4 3 34 [.ref (dk), .int (nI (u))] h nx (pN (.int (bI (kpDk (l, ps, sc) u))) h nx) := by
  have hC0 := hC
  have hln := hc.1
  subst hln
  refine aMet_of rfl (Nat.le_of_ble_eq_true rfl) ?_
  show aw G mX9_keepsNow [] (aRoom 4 3 34) (aEnd G (pN (.int (bI (kpDk (l, ps, sc) u))) h nx) 3 34) 0 0 h nx 0 [(0, .ref (dk)), (1, .int (nI (u)))] []
  obtain ⟨y_1f, y_1g, y_11, y_12, y_13, y_1v⟩ := hC
  refine aw_iload_n dX9_keepsNow_0 rfl ?_
  rcases (show u = 0 ∨ u = 1 ∨ u = 2 ∨ u = 3 ∨ u = 4 ∨ u = 5 by omega) with rfl | rfl | rfl | rfl | rfl | rfl
  · skip
    have hx : (nI 0).toInt = 0 := by decide
    refine aw_tableIn (off := 35) (tgt := 36) dX9_keepsNow_1 (by rw [hx]; decide) (by rw [hx]; decide) (by rw [hx]; rfl) (by decide) ?_
    refine aw_aload_n dX9_keepsNow_36 rfl ?_
    refine aw_callVR (As := []) (rest := []) (c_X7_hasPairs G hC0 hc hn) kX7_hasPairs w_1077 y_11 rfl rfl rfl rfl (Nat.le_of_ble_eq_true rfl) dX9_keepsNow_37 ⟨Nat.le_of_ble_eq_true rfl, Nat.le_of_ble_eq_true rfl⟩ ⟨Nat.le_of_ble_eq_true rfl, Nat.le_of_ble_eq_true rfl⟩ ?_
    exact aw_zreturn dX9_keepsNow_40 rfl (bI_nar (grps l l.length 2)) ⟨_, rfl, rfl, Nat.le_refl _, fun _ _ => rfl⟩ (Nat.le_of_ble_eq_true rfl) (Nat.le_of_ble_eq_true rfl)
  · skip
    have hx : (nI 1).toInt = 1 := by decide
    refine aw_tableIn (off := 40) (tgt := 41) dX9_keepsNow_1 (by rw [hx]; decide) (by rw [hx]; decide) (by rw [hx]; rfl) (by decide) ?_
    refine aw_aload_n dX9_keepsNow_41 rfl ?_
    refine aw_callVR (As := []) (rest := []) (c_X7_hasFours G hC0 hc hn) kX7_hasFours w_1081 y_11 rfl rfl rfl rfl (Nat.le_of_ble_eq_true rfl) dX9_keepsNow_42 ⟨Nat.le_of_ble_eq_true rfl, Nat.le_of_ble_eq_true rfl⟩ ⟨Nat.le_of_ble_eq_true rfl, Nat.le_of_ble_eq_true rfl⟩ ?_
    exact aw_zreturn dX9_keepsNow_45 rfl (bI_nar (grps l l.length 4)) ⟨_, rfl, rfl, Nat.le_refl _, fun _ _ => rfl⟩ (Nat.le_of_ble_eq_true rfl) (Nat.le_of_ble_eq_true rfl)
  · skip
    have hx : (nI 2).toInt = 2 := by decide
    refine aw_tableIn (off := 45) (tgt := 46) dX9_keepsNow_1 (by rw [hx]; decide) (by rw [hx]; decide) (by rw [hx]; rfl) (by decide) ?_
    refine aw_aload_n dX9_keepsNow_46 rfl ?_
    refine aw_callVR (As := []) (rest := []) (c_X7_isWhole G hC0 hc hn (by omega)) kX7_isWhole w_1085 y_11 rfl rfl rfl rfl (Nat.le_of_ble_eq_true rfl) dX9_keepsNow_47 ⟨Nat.le_of_ble_eq_true rfl, Nat.le_of_ble_eq_true rfl⟩ ⟨Nat.le_of_ble_eq_true rfl, Nat.le_of_ble_eq_true rfl⟩ ?_
    exact aw_zreturn dX9_keepsNow_50 rfl (bI_nar (whol l l.length)) ⟨_, rfl, rfl, Nat.le_refl _, fun _ _ => rfl⟩ (Nat.le_of_ble_eq_true rfl) (Nat.le_of_ble_eq_true rfl)
  · skip
    have hx : (nI 3).toInt = 3 := by decide
    refine aw_tableIn (off := 50) (tgt := 51) dX9_keepsNow_1 (by rw [hx]; decide) (by rw [hx]; decide) (by rw [hx]; rfl) (by decide) ?_
    refine aw_aload_n dX9_keepsNow_51 rfl ?_
    have hiv := invs_le (l := l) hn
    refine aw_callVQ (As := []) (rest := []) (c_X7_inversions G hC0 hc hn hb) kX7_inversions w_1044 y_11 rfl rfl rfl rfl (Nat.le_of_ble_eq_true rfl) dX9_keepsNow_52 ⟨Nat.le_of_ble_eq_true rfl, Nat.le_of_ble_eq_true rfl⟩ ⟨Nat.le_of_ble_eq_true rfl, Nat.le_of_ble_eq_true rfl⟩ (fun v_1 h_1 n_1 q_1 z_1 => ?_)
    obtain ⟨rfl, z_1, o_1⟩ := q_1
    have f_1 := (o_1 dk (by omega)).trans y_11
    have f_2 := (o_1 a (by omega)).trans y_12
    have f_3 := (o_1 b (by omega)).trans y_13
    refine aw_ic dX9_keepsNow_55 ic_2 ?_
    refine aw_iremN (by omega) (by omega) (by omega) dX9_keepsNow_56 ?_
    refine aw_if_neN (tgt := 64) (by omega) dX9_keepsNow_57 (by decide) (fun c1 => ?_) (fun c1 => ?_)
    · skip
      refine aw_ic dX9_keepsNow_64 ic_0 ?_
      exact aw_zreturn dX9_keepsNow_65 rfl (bI_nar false) ⟨_, rfl, by show _ = some (Value.int (bI (decide (invs l l.length % 2 = 0)))); rw [decide_eq_false (by omega)]; rfl, by omega, o_1⟩ (Nat.le_of_ble_eq_true rfl) (Nat.le_of_ble_eq_true rfl)
    · skip
      refine aw_ic dX9_keepsNow_60 ic_1 ?_
      refine aw_goto (tgt := 65) dX9_keepsNow_61 (by decide) ?_
      exact aw_zreturn dX9_keepsNow_65 rfl (bI_nar true) ⟨_, rfl, by show _ = some (Value.int (bI (decide (invs l l.length % 2 = 0)))); rw [decide_eq_true (by omega)]; rfl, by omega, o_1⟩ (Nat.le_of_ble_eq_true rfl) (Nat.le_of_ble_eq_true rfl)
  · skip
    have hx : (nI 4).toInt = 4 := by decide
    refine aw_tableIn (off := 65) (tgt := 66) dX9_keepsNow_1 (by rw [hx]; decide) (by rw [hx]; decide) (by rw [hx]; rfl) (by decide) ?_
    refine aw_aload_n dX9_keepsNow_66 rfl ?_
    refine aw_callVQ (As := []) (rest := []) (c_X7_isNew G hC0 hc hn hb) kX7_isNew w_1090 y_11 rfl rfl rfl rfl (Nat.le_of_ble_eq_true rfl) dX9_keepsNow_67 ⟨Nat.le_of_ble_eq_true rfl, Nat.le_of_ble_eq_true rfl⟩ ⟨Nat.le_of_ble_eq_true rfl, Nat.le_of_ble_eq_true rfl⟩ (fun v_2 h_2 n_2 q_2 z_2 => ?_)
    obtain ⟨rfl, z_2, o_2⟩ := q_2
    have f_4 := (o_2 dk (by omega)).trans y_11
    have f_5 := (o_2 a (by omega)).trans y_12
    have f_6 := (o_2 b (by omega)).trans y_13
    exact aw_zreturn dX9_keepsNow_70 rfl (bI_nar (decide (invs l l.length = 0))) ⟨_, rfl, by show _ = some (Value.int (bI (decide (fixs l l.length = l.length)))); rw [decide_eq_decide.mpr (new_iff hc ha)], by omega, o_2⟩ (Nat.le_of_ble_eq_true rfl) (Nat.le_of_ble_eq_true rfl)
  · skip
    have hx : (nI 5).toInt < 0 ∨ 4 < (nI 5).toInt := by decide
    refine aw_tableOut (tgt := 71) dX9_keepsNow_1 hx (by decide) ?_
    refine aw_aload_n dX9_keepsNow_71 rfl ?_
    refine aw_callVR (As := []) (rest := []) (c_X7_isMirrored G hC0 hc hn (by omega)) kX7_isMirrored w_1095 y_11 rfl rfl rfl rfl (Nat.le_of_ble_eq_true rfl) dX9_keepsNow_72 ⟨Nat.le_of_ble_eq_true rfl, Nat.le_of_ble_eq_true rfl⟩ ⟨Nat.le_of_ble_eq_true rfl, Nat.le_of_ble_eq_true rfl⟩ ?_
    exact aw_zreturn dX9_keepsNow_75 rfl (bI_nar (mirr l l.length)) ⟨_, rfl, rfl, Nat.le_refl _, fun _ _ => rfl⟩ (Nat.le_of_ble_eq_true rfl) (Nat.le_of_ble_eq_true rfl)
