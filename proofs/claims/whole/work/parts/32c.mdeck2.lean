set_option maxHeartbeats 4000000 in
set_option maxRecDepth 20000 in
/-- runs() -/
theorem c_X7_runs (G : aG) {h : aH} {nx dk a b n sc : Nat} {l : List Nat} (hC : CardsAt h dk a b l sc) (hc : cOk n l) (hn : n ≤ 16) (ha : cAll n l) (h0 : 0 < n) : aMet G mX7_runs 1 0 0 [.ref (dk)] h nx (pI (nI (runs l n)) h nx) := by
  have hC0 := hC
  have hln := hc.1
  refine aMet_of rfl (Nat.le_of_ble_eq_true rfl) ?_
  show aw G mX7_runs [] (aRoom 1 0 0) (aEnd G (pI (nI (runs l n)) h nx) 0 0) 0 0 h nx 0 [(0, .ref (dk))] []
  obtain ⟨y_1f, y_1g, y_11, y_12, y_13, y_1v⟩ := hC
  refine aw_ic dX7_runs_0 ic_1 ?_
  refine aw_istore_n (L' := [(1, .int (nI (1))), (0, .ref (dk))]) dX7_runs_1 (by decide) rfl ?_
  refine aw_ic dX7_runs_2 ic_0 ?_
  refine aw_istore_n (L' := [(2, .int (nI (0))), (1, .int (nI (1))), (0, .ref (dk))]) dX7_runs_3 (by decide) rfl ?_
  have K : ∀ (d : Nat) (c i : Nat), l.length - i < d → (i + 1 ≤ l.length) → (c = 1 + ct (fun i => decide (ixOf l (i + 1) < ixOf l i)) i) → aw G mX7_runs [] (aRoom 1 0 0) (aEnd G (pI (nI (runs l n)) h nx) 0 0) 0 0 h nx 4 [(0, .ref (dk)), (1, .int (nI (c))), (2, .int (nI (i)))] [] := by
    intro d
    induction d with
    | zero => intro c i hMd; exact absurd hMd (Nat.not_lt_zero _)
    | succ d ih =>
      intro c i hMd hi hs
      have hct := ct_le (fun i => decide (ixOf l (i + 1) < ixOf l i)) i
      refine aw_iload_n dX7_runs_4 rfl ?_
      refine aw_ic dX7_runs_5 ic_1 ?_
      refine aw_iaddN dX7_runs_6 ?_
      refine aw_aload_n dX7_runs_7 rfl ?_
      refine aw_callVR (As := []) (rest := [.int (nI (i + 1))]) (c_X7_size G hC0 hc hn) kX7_size w_911 y_11 rfl rfl rfl rfl (Nat.le_of_ble_eq_true rfl) dX7_runs_8 ⟨Nat.le_of_ble_eq_true rfl, Nat.le_of_ble_eq_true rfl⟩ ⟨Nat.le_of_ble_eq_true rfl, Nat.le_of_ble_eq_true rfl⟩ ?_
      refine aw_icmp_geN (tgt := 43) (by omega) (by omega) dX7_runs_11 (by decide) (fun c1 => ?_) (fun c1 => ?_)
      · skip
        refine aw_iload_n dX7_runs_43 rfl ?_
        exact aw_ireturn dX7_runs_44 rfl ⟨r_n (by rw [hs, show i = n - 1 by omega]; rfl), rfl, rfl⟩ (Nat.le_of_ble_eq_true rfl) (Nat.le_of_ble_eq_true rfl)
      · skip
        have g1 := ixOf_at ha (x := i + 1) (by omega)
        have g2 := ixOf_at ha (x := i) (by omega)
        refine aw_iload_n dX7_runs_14 rfl ?_
        refine aw_aload_n dX7_runs_15 rfl ?_
        refine aw_iload_n dX7_runs_16 rfl ?_
        refine aw_ic dX7_runs_17 ic_1 ?_
        refine aw_iaddN dX7_runs_18 ?_
        refine aw_callVR (As := [.int (nI (i + 1))]) (rest := [.int (nI (c))]) (c_X7_find G hC0 hc hn ⟨_, g1⟩) kX7_find w_1058 y_11 rfl rfl rfl rfl (Nat.le_of_ble_eq_true rfl) dX7_runs_19 ⟨Nat.le_of_ble_eq_true rfl, Nat.le_of_ble_eq_true rfl⟩ ⟨Nat.le_of_ble_eq_true rfl, Nat.le_of_ble_eq_true rfl⟩ ?_
        refine aw_aload_n dX7_runs_22 rfl ?_
        refine aw_iload_n dX7_runs_23 rfl ?_
        refine aw_callVR (As := [.int (nI (i))]) (rest := [.int (nI (ixOf l (i + 1))), .int (nI (c))]) (c_X7_find G hC0 hc hn ⟨_, g2⟩) kX7_find w_1058 y_11 rfl rfl rfl rfl (Nat.le_of_ble_eq_true rfl) dX7_runs_24 ⟨Nat.le_of_ble_eq_true rfl, Nat.le_of_ble_eq_true rfl⟩ ⟨Nat.le_of_ble_eq_true rfl, Nat.le_of_ble_eq_true rfl⟩ ?_
        refine aw_icmp_geN (tgt := 34) (by omega) (by omega) dX7_runs_27 (by decide) (fun c2 => ?_) (fun c2 => ?_)
        · skip
          refine aw_ic dX7_runs_34 ic_0 ?_
          refine aw_iaddN dX7_runs_35 ?_
          refine aw_istore_n (L' := [(1, .int (nI (c + 0))), (0, .ref (dk)), (2, .int (nI (i)))]) dX7_runs_36 (by decide) rfl ?_
          refine aw_iincN (k := 1) (L' := [(2, .int (nI (i + 1))), (1, .int (nI (c + 0))), (0, .ref (dk))]) dX7_runs_37 (by decide) rfl (by decide) rfl ?_
          refine aw_goto (tgt := 4) dX7_runs_40 (by decide) ?_
          refine aw_sub (L' := [(0, .ref (dk)), (1, .int (nI (c + 0))), (2, .int (nI (i + 1)))]) [2, 1, 0] rfl ?_
          exact ih (c + 0) (i + 1) (by omega) (by omega) (by rw [ct_f (p := (fun i => decide (ixOf l (i + 1) < ixOf l i))) (by simp only [decide_eq_false_iff_not]; omega)]; exact hs)
        · skip
          refine aw_ic dX7_runs_30 ic_1 ?_
          refine aw_goto (tgt := 35) dX7_runs_31 (by decide) ?_
          refine aw_iaddN dX7_runs_35 ?_
          refine aw_istore_n (L' := [(1, .int (nI (c + 1))), (0, .ref (dk)), (2, .int (nI (i)))]) dX7_runs_36 (by decide) rfl ?_
          refine aw_iincN (k := 1) (L' := [(2, .int (nI (i + 1))), (1, .int (nI (c + 1))), (0, .ref (dk))]) dX7_runs_37 (by decide) rfl (by decide) rfl ?_
          refine aw_goto (tgt := 4) dX7_runs_40 (by decide) ?_
          refine aw_sub (L' := [(0, .ref (dk)), (1, .int (nI (c + 1))), (2, .int (nI (i + 1)))]) [2, 1, 0] rfl ?_
          exact ih (c + 1) (i + 1) (by omega) (by omega) (by rw [ct_t (p := (fun i => decide (ixOf l (i + 1) < ixOf l i))) (by simp only [decide_eq_true_eq]; omega)]; omega)
  refine aw_sub (L' := [(0, .ref (dk)), (1, .int (nI (1))), (2, .int (nI (0)))]) [2, 1, 0] rfl ?_
  exact K (l.length + 1) 1 0 (by omega) (by omega) rfl
set_option maxHeartbeats 4000000 in
set_option maxRecDepth 20000 in
/-- isMirrored() -/
theorem c_X7_isMirrored (G : aG) {h : aH} {nx dk a b n sc : Nat} {l : List Nat} (hC : CardsAt h dk a b l sc) (hc : cOk n l) (hn : n ≤ 16) (h0 : 0 < n) : aMet G mX7_isMirrored 1 0 0 [.ref (dk)] h nx (pI (bI (mirr l n)) h nx) := by
  have hC0 := hC
  have hln := hc.1
  refine aMet_of rfl (Nat.le_of_ble_eq_true rfl) ?_
  show aw G mX7_isMirrored [] (aRoom 1 0 0) (aEnd G (pI (bI (mirr l n)) h nx) 0 0) 0 0 h nx 0 [(0, .ref (dk))] []
  obtain ⟨y_1f, y_1g, y_11, y_12, y_13, y_1v⟩ := hC
  refine aw_ic dX7_isMirrored_0 ic_0 ?_
  refine aw_istore_n (L' := [(1, .int (nI (0))), (0, .ref (dk))]) dX7_isMirrored_1 (by decide) rfl ?_
  have K : ∀ (d : Nat) (i : Nat), l.length - i < d → (i ≤ l.length) → (∀ k, k < i → cd l k + cd l (l.length - 1 - k) = l.length - 1) → aw G mX7_isMirrored [] (aRoom 1 0 0) (aEnd G (pI (bI (mirr l n)) h nx) 0 0) 0 0 h nx 2 [(0, .ref (dk)), (1, .int (nI (i)))] [] := by
    intro d
    induction d with
    | zero => intro i hMd; exact absurd hMd (Nat.not_lt_zero _)
    | succ d ih =>
      intro i hMd hi ha
      refine aw_iload_n dX7_isMirrored_2 rfl ?_
      refine aw_aload_n dX7_isMirrored_3 rfl ?_
      refine aw_callVR (As := []) (rest := [.int (nI (i))]) (c_X7_size G hC0 hc hn) kX7_size w_911 y_11 rfl rfl rfl rfl (Nat.le_of_ble_eq_true rfl) dX7_isMirrored_4 ⟨Nat.le_of_ble_eq_true rfl, Nat.le_of_ble_eq_true rfl⟩ ⟨Nat.le_of_ble_eq_true rfl, Nat.le_of_ble_eq_true rfl⟩ ?_
      refine aw_icmp_geN (tgt := 47) (by omega) (by omega) dX7_isMirrored_7 (by decide) (fun c1 => ?_) (fun c1 => ?_)
      · skip
        refine aw_ic dX7_isMirrored_47 ic_1 ?_
        exact aw_zreturn dX7_isMirrored_48 rfl (bI_nar true) ⟨r_t (decide_eq_true (fun k hk => by have := ha k (by omega); rw [hln] at this; exact this)), rfl, rfl⟩ (Nat.le_of_ble_eq_true rfl) (Nat.le_of_ble_eq_true rfl)
      · skip
        have hci := hc.2 i (by omega)
        have hcj := hc.2 (l.length - 1 - i) (by omega)
        refine aw_aload_n dX7_isMirrored_10 rfl ?_
        refine aw_get 0 y_11 rfl rfl (by decide) w_773 rfl dX7_isMirrored_11 ?_
        refine aw_iload_n dX7_isMirrored_14 rfl ?_
        refine aw_iaload y_12 (by omega) (by omega) dX7_isMirrored_15 ?_
        refine aw_top (show (y_1f i) = (nI (l.getD i 0 / 2)) from (y_1v i (by omega)).1) ?_
        refine aw_aload_n dX7_isMirrored_16 rfl ?_
        refine aw_get 0 y_11 rfl rfl (by decide) w_773 rfl dX7_isMirrored_17 ?_
        refine aw_aload_n dX7_isMirrored_20 rfl ?_
        refine aw_callVR (As := []) (rest := [.ref (a), .int (nI (l.getD i 0 / 2))]) (c_X7_size G hC0 hc hn) kX7_size w_911 y_11 rfl rfl rfl rfl (Nat.le_of_ble_eq_true rfl) dX7_isMirrored_21 ⟨Nat.le_of_ble_eq_true rfl, Nat.le_of_ble_eq_true rfl⟩ ⟨Nat.le_of_ble_eq_true rfl, Nat.le_of_ble_eq_true rfl⟩ ?_
        refine aw_ic dX7_isMirrored_24 ic_1 ?_
        refine aw_isubN (by omega) dX7_isMirrored_25 ?_
        refine aw_iload_n dX7_isMirrored_26 rfl ?_
        refine aw_isubN (by omega) dX7_isMirrored_27 ?_
        refine aw_iaload y_12 (by omega) (by omega) dX7_isMirrored_28 ?_
        refine aw_top (show (y_1f ((l.length - 1) - i)) = (nI (l.getD (l.length - 1 - i) 0 / 2)) from (y_1v _ (by omega)).1) ?_
        refine aw_iaddN dX7_isMirrored_29 ?_
        refine aw_aload_n dX7_isMirrored_30 rfl ?_
        refine aw_callVR (As := []) (rest := [.int (nI ((l.getD i 0 / 2) + (l.getD (l.length - 1 - i) 0 / 2)))]) (c_X7_size G hC0 hc hn) kX7_size w_911 y_11 rfl rfl rfl rfl (Nat.le_of_ble_eq_true rfl) dX7_isMirrored_31 ⟨Nat.le_of_ble_eq_true rfl, Nat.le_of_ble_eq_true rfl⟩ ⟨Nat.le_of_ble_eq_true rfl, Nat.le_of_ble_eq_true rfl⟩ ?_
        refine aw_ic dX7_isMirrored_34 ic_1 ?_
        refine aw_isubN (by omega) dX7_isMirrored_35 ?_
        refine aw_icmp_eqN (tgt := 41) (by omega) (by omega) dX7_isMirrored_36 (by decide) (fun c2 => ?_) (fun c2 => ?_)
        · skip
          refine aw_iincN (k := 1) (L' := [(1, .int (nI (i + 1))), (0, .ref (dk))]) dX7_isMirrored_41 (by decide) rfl (by decide) rfl ?_
          refine aw_goto (tgt := 2) dX7_isMirrored_44 (by decide) ?_
          refine aw_sub (L' := [(0, .ref (dk)), (1, .int (nI (i + 1)))]) [1, 0] rfl ?_
          exact ih (i + 1) (by omega) (by omega) (le_s ha c2)
        · skip
          refine aw_ic dX7_isMirrored_39 ic_0 ?_
          exact aw_zreturn dX7_isMirrored_40 rfl (bI_nar false) ⟨r_f (decide_eq_false (fun q => c2 (by have := q i (by omega); rw [← hln] at this; exact this))), rfl, rfl⟩ (Nat.le_of_ble_eq_true rfl) (Nat.le_of_ble_eq_true rfl)
  refine aw_sub (L' := [(0, .ref (dk)), (1, .int (nI (0)))]) [1, 0] rfl ?_
  exact K (l.length + 1) 0 (by omega) (Nat.zero_le _) (fun k hk => absurd hk (Nat.not_lt_zero _))
