set_option maxHeartbeats 4000000 in
set_option maxRecDepth 20000 in
/-- add(v) -/
theorem c_X9_add (G : aG) {h : aH} {nx m t : Nat} {th v : Int32} {s : Int64} (e : h m = some (mObj m th t s)) : aMet G mX9_add 0 0 0 [.ref (m), .int (v)] h nx (pQ (fun v1 h1 n1 => v1 = none ∧ n1 = nx ∧ h1 m = some (mObj m th t (mixD s v)) ∧ ∀ b, b ≠ m → h1 b = h b)) := by
  refine aMet_of rfl (Nat.le_of_ble_eq_true rfl) ?_
  show aw G mX9_add [] (aRoom 0 0 0) (aEnd G (pQ (fun v1 h1 n1 => v1 = none ∧ n1 = nx ∧ h1 m = some (mObj m th t (mixD s v)) ∧ ∀ b, b ≠ m → h1 b = h b)) 0 0) 0 0 h nx 0 [(0, .ref (m)), (1, .int (v))] []
  refine aw_aload_n dX9_add_0 rfl ?_
  refine aw_aload_n dX9_add_1 rfl ?_
  refine aw_get 4 e rfl rfl (by decide) w_734 rfl dX9_add_2 ?_
  refine aw_ldc2 dX9_add_5 w_1183 ?_
  refine aw_lmul dX9_add_8 ?_
  refine aw_iload_n dX9_add_9 rfl ?_
  refine aw_i2l dX9_add_10 ?_
  refine aw_ladd dX9_add_11 ?_
  refine aw_putV (v := .long ((s * 31) + ((v)).toInt64)) (ty := .long) (fs' := [.int (th), .ref (m + 1), .ref (m + 2), .int (nI (t)), .long ((s * 31) + ((v)).toInt64)]) 4 e rfl rfl (by decide) (by decide +kernel) rfl rfl rfl (Nat.le_of_ble_eq_true rfl) rfl w_734 dX9_add_12 (fun h_1 f_1 o_1 => ?_)
  exact aw_return dX9_add_15 rfl ⟨_, rfl, rfl, rfl, f_1, o_1⟩ (Nat.le_of_ble_eq_true rfl) (Nat.le_of_ble_eq_true rfl)
set_option maxHeartbeats 4000000 in
set_option maxRecDepth 20000 in
/-- digest() -/
theorem c_X9_digest (G : aG) {h : aH} {nx m c : Nat} {own : Nat → Nat} {σ : aSg} {th : Int32} (hM : MAt G own h nx m σ th) (hσ : sgOk c σ) (hc9 : c ≤ 512)  : aMet G mX9_digest 20 845 9464 [.ref (m)] h nx (pQ (fun v h1 n1 => v = some (.long (digV σ)) ∧ ∃ x, DgN h h1 nx n1 m σ.2.2 x)) := by
  have h4 := hσ.1
  have h5 := hσ.2.1
  have hO := hM.1
  have om := hM.2.1
  have hmn := own_lt hM.1 (b := m) (by rw [hM.2.1]; decide)
  obtain ⟨ds, hDL, hdn, hm1, hDD⟩ := hM.all hσ hc9
  obtain ⟨ss, hSL, hsn, -⟩ := hM.2.2.2.2
  refine aMet_of rfl (Nat.le_of_ble_eq_true rfl) ?_
  show aw G mX9_digest [] (aRoom 20 845 9464) (aEnd G (pQ (fun v h1 n1 => v = some (.long (digV σ)) ∧ ∃ x, DgN h h1 nx n1 m σ.2.2 x)) 845 9464) 0 0 h nx 0 [(0, .ref (m))] []
  have w_1M := hM
  obtain ⟨w_1o, w_1m, ⟨w_1s, w_1f⟩, -⟩ := w_1M
  refine aw_aload_n dX9_digest_0 rfl ?_
  refine aw_ic dX9_digest_1 ic_0 ?_
  refine aw_putV (v := .int (nI (0))) (ty := .int) (fs' := [.int (nI (0)), .ref (m + 1), .ref (m + 2), .int (nI (σ.2.2)), .long (w_1s)]) 0 w_1f rfl rfl (by decide) (by decide +kernel) rfl rfl rfl (Nat.le_of_ble_eq_true rfl) rfl w_730 dX9_digest_2 (fun h_1 f_1 o_1 => ?_)
  refine aw_aload_n dX9_digest_5 rfl ?_
  refine aw_ldc2 dX9_digest_6 w_1178 ?_
  refine aw_putV (v := .long (58304)) (ty := .long) (fs' := [.int (nI (0)), .ref (m + 1), .ref (m + 2), .int (nI (σ.2.2)), .long (58304)]) 4 f_1 rfl rfl (by decide) (by decide +kernel) rfl rfl rfl (Nat.le_of_ble_eq_true rfl) rfl w_734 dX9_digest_9 (fun h_2 f_2 o_2 => ?_)
  refine aw_ic dX9_digest_12 ic_0 ?_
  refine aw_istore_n (L' := [(1, .int (nI (0))), (0, .ref (m))]) dX9_digest_13 (by decide) rfl ?_
  have hD0 : DgN h h_2 nx nx m σ.2.2 58304 := ⟨Nat.le_refl _, f_2, fun q hq hqm => ((o_2 q (by omega)).trans (o_1 q (by omega)))⟩
  refine aw_widen (cells' := 2 * 0) (slots' := 10 * 0) (by omega) (by omega) ?_
  have K : ∀ (d : Nat) (k nx1 : Nat) (x : Int64) (h1 : aH), 6 - k < d → (k ≤ 6) → (x = dgM σ k) → (DgN h h1 nx nx1 m σ.2.2 x) → aw G mX9_digest [] (aRoom 20 845 9464) (aEnd G (pQ (fun v h1 n1 => v = some (.long (digV σ)) ∧ ∃ x, DgN h h1 nx n1 m σ.2.2 x)) 845 9464) (2 * k) (10 * k) h1 nx1 14 [(0, .ref (m)), (1, .int (nI (k)))] [] := by
    intro d
    induction d with
    | zero => intro k nx1 x h1 hMd; exact absurd hMd (Nat.not_lt_zero _)
    | succ d ih =>
      intro k nx1 x h1 hMd hk hx hD
      have hle := hD.1
      have hMk := hD.M h4 h5 hM
      refine aw_iload_n dX9_digest_14 rfl ?_
      refine aw_bp (v := 6) dX9_digest_15 (by decide) ?_
      refine aw_icmp_geN (tgt := 35) (by omega) (by omega) dX9_digest_17 (by decide) (fun c1 => ?_) (fun c1 => ?_)
      · skip
        have hk6 : k = 6 := by omega
        refine aw_widen (cells' := 12) (slots' := 60) (by omega) (by omega) ?_
        subst hk6
        have hDk := hD.L hDL hO om (by decide)
        have hDk0 := hDk
        obtain ⟨u_11, u_1m, u_1e, u_12, u_13, u_14⟩ := hDk0
        refine aw_aload_n dX9_digest_35 rfl ?_
        refine aw_get 1 hD.2.1 rfl rfl (by decide) w_731 rfl dX9_digest_36 ?_
        refine aw_callVQ (As := []) (rest := []) (c_Liter G hDk (by omega)) kJx4a65c_iterator_32c93 w_968 u_12 rfl rfl rfl rfl (Nat.le_of_ble_eq_true rfl) dX9_digest_39 ⟨Nat.le_of_ble_eq_true rfl, Nat.le_of_ble_eq_true rfl⟩ ⟨Nat.le_of_ble_eq_true rfl, Nat.le_of_ble_eq_true rfl⟩ (fun v_1 h_3 n_1 q_1 z_1 => ?_)
        obtain ⟨rfl, rfl, hI, oI⟩ := q_1
        have hD2 := hD.fr hmn (Nat.le_succ nx1) (fun b hb => oI b (by omega))
        have hI2 : ItD h_3 nx (nx1 + 1) m nx1 0 := ⟨⟨by omega, by omega, hm1⟩, hI⟩
        refine aw_astore_n (L' := [(1, .ref (nx1)), (0, .ref (m))]) dX9_digest_42 (by decide) rfl ?_
        refine aw_widen (cells' := 13 + 66 * 0) (slots' := 64 + 748 * 0) (by omega) (by omega) ?_
        have K2 : ∀ (d : Nat) (i nx2 : Nat) (y : Int64) (h2 : aH), σ.1.length - i < d → (i ≤ σ.1.length) → (y = dgDs σ (dgM σ 6) i) → (DgN h h2 nx nx2 m σ.2.2 y) → (ItD h2 nx nx2 m nx1 i) → aw G mX9_digest [] (aRoom 20 845 9464) (aEnd G (pQ (fun v h1 n1 => v = some (.long (digV σ)) ∧ ∃ x, DgN h h1 nx n1 m σ.2.2 x)) 845 9464) (13 + 66 * i) (64 + 748 * i) h2 nx2 43 [(0, .ref (m)), (1, .ref (nx1))] [] := by
          intro d
          induction d with
          | zero => intro i nx2 y h2 hMd; exact absurd hMd (Nat.not_lt_zero _)
          | succ d ih =>
            intro i nx2 y h2 hMd hi hy hE hJ
            have ih2 := ih
            have hle2 := hE.1
            have hJ1 := hJ.1
            have hDk := hE.L hDL hO om (by decide)
            refine aw_aload_n dX9_digest_43 rfl ?_
            obtain ⟨fs_1, ff_1⟩ := hJ.2.o
            refine aw_callF (mm' := mJx35411_hasNext_aae02) (x := yItr_has) (As := []) (rest := []) (n := 0) (c_hasNext G hDk hJ.2 (by omega) (by omega)) ⟨w_1000, w_25, by decide +kernel⟩ w_998 w_996 (fun U hK => hK.2.2.2.2.2.2.2.1.1) (by decide +kernel) w_992 ff_1 rfl rfl rfl (Nat.le_of_ble_eq_true rfl) dX9_digest_44 ⟨Nat.le_of_ble_eq_true rfl, Nat.le_of_ble_eq_true rfl⟩ ⟨(show 13 + 66 * i + 0 ≤ 845 by omega), (show 64 + 748 * i + 0 ≤ 9464 by omega)⟩ (fun v_2 h_4 n_2 q_2 z_2 => ?_) (fun E h9 n9 q9 => by obtain ⟨e9, -⟩ := q9; cases e9)
            obtain ⟨q_2, hh9, hn9⟩ := q_2
            have hh9 := hh9.symm
            subst hh9
            have hn9 := hn9.symm
            subst hn9
            cases q_2
            refine aw_if_eqB (tgt := 207) dX9_digest_49 (by decide) (fun c2 => ?_) (fun c2 => ?_)
            · skip
              have hin : i = σ.1.length := by have := of_decide_eq_false c2; omega
              refine aw_ic dX9_digest_207 ic_0 ?_
              refine aw_istore_n (L' := [(1, .int (nI (0))), (0, .ref (m))]) dX9_digest_208 (by decide) rfl ?_
              refine aw_widen (cells' := 277 + 142 * 0) (slots' := 3056 + 1602 * 0) (by omega) (by omega) ?_
              have K6 : ∀ (d : Nat) (j nx6 : Nat) (v : Int64) (h6 : aH), σ.2.1.length - j < d → (j ≤ σ.2.1.length) → (v = dgSs σ y j) → (DgN h h6 nx nx6 m σ.2.2 v) → aw G mX9_digest [] (aRoom 20 845 9464) (aEnd G (pQ (fun v h1 n1 => v = some (.long (digV σ)) ∧ ∃ x, DgN h h1 nx n1 m σ.2.2 x)) 845 9464) (277 + 142 * j) (3056 + 1602 * j) h6 nx6 209 [(0, .ref (m)), (1, .int (nI (j)))] [] := by
                intro d
                induction d with
                | zero => intro j nx6 v h6 hMd; exact absurd hMd (Nat.not_lt_zero _)
                | succ d ih =>
                  intro j nx6 v h6 hMd hj hv hF
                  have hle6 := hF.1
                  have hMs := hF.M h4 h5 hM
                  have hSk := hF.L hSL hO om (by decide)
                  have hSk0 := hSk
                  obtain ⟨u_21, u_2m, u_2e, u_22, u_23, u_24⟩ := hSk0
                  refine aw_iload_n dX9_digest_209 rfl ?_
                  refine aw_aload_n dX9_digest_210 rfl ?_
                  refine aw_get 2 hF.2.1 rfl rfl (by decide) w_732 rfl dX9_digest_211 ?_
                  refine aw_callVR (As := []) (rest := [.int (nI (j))]) (c_Lsize G hSk) kJx4a65c_size_8abf5 w_761 u_22 rfl rfl rfl rfl (Nat.le_of_ble_eq_true rfl) dX9_digest_214 ⟨Nat.le_of_ble_eq_true rfl, Nat.le_of_ble_eq_true rfl⟩ ⟨(show 277 + 142 * j + 0 ≤ 845 by omega), (show 3056 + 1602 * j + 0 ≤ 9464 by omega)⟩ ?_
                  rw [hsn]
                  refine aw_icmp_geN (tgt := 247) (by omega) (by omega) dX9_digest_217 (by decide) (fun c6 => ?_) (fun c6 => ?_)
                  · skip
                    have e9 : j = σ.2.1.length := by omega
                    refine aw_aload_n dX9_digest_247 rfl ?_
                    refine aw_get 4 hF.2.1 rfl rfl (by decide) w_734 rfl dX9_digest_248 ?_
                    exact aw_lreturn dX9_digest_251 rfl ⟨_, rfl, by unfold digV; rw [← hin, ← hy, ← e9, hv], v, hF⟩ (by omega) (by omega)
                  · skip
                    have hxs := inS_i c6 h5
                    have hsq : sqI σ (nI j) = σ.2.1.getD j [] := sqI_i (by omega)
                    refine aw_aload_n dX9_digest_220 rfl ?_
                    refine aw_aload_n dX9_digest_221 rfl ?_
                    refine aw_iload_n dX9_digest_222 rfl ?_
                    refine aw_ic dX9_digest_223 ic_0 ?_
                    refine aw_callVR (As := [.int (nI (j)), .int (nI (0))]) (rest := [.ref (m)]) (c_X9_ofSequenceNow G hMs hσ hc9 hxs (u := 0) (Nat.zero_le _)) kX9_ofSequenceNow w_1119 hF.2.1 rfl rfl rfl rfl (Nat.le_of_ble_eq_true rfl) dX9_digest_224 ⟨Nat.le_of_ble_eq_true rfl, Nat.le_of_ble_eq_true rfl⟩ ⟨(show 277 + 142 * j + 0 ≤ 845 by omega), (show 3056 + 1602 * j + 0 ≤ 9464 by omega)⟩ ?_
                    refine aw_callVQ (As := [.int (nI (ofSq (sqI σ (nI j)) 0))]) (rest := []) (c_X9_add G hF.2.1) kX9_add w_1179 hF.2.1 rfl rfl rfl rfl (Nat.le_of_ble_eq_true rfl) dX9_digest_227 ⟨Nat.le_of_ble_eq_true rfl, Nat.le_of_ble_eq_true rfl⟩ ⟨(show 277 + 142 * j + 0 ≤ 845 by omega), (show 3056 + 1602 * j + 0 ≤ 9464 by omega)⟩ (fun v_3 h_5 n_3 q_3 z_3 => ?_)
                    obtain ⟨rfl, hn_1, qm_1, qo_1⟩ := q_3
                    have hn_1 := hn_1.symm
                    subst hn_1
                    have hD_1 := hF.step (Nat.le_refl _) (fun _ _ => rfl) qm_1 qo_1
                    have le_1 := hD_1.1
                    have hMt := hD_1.M h4 h5 hM
                    refine aw_aload_n dX9_digest_230 rfl ?_
                    refine aw_aload_n dX9_digest_231 rfl ?_
                    refine aw_iload_n dX9_digest_232 rfl ?_
                    refine aw_bp (v := 8) dX9_digest_233 (by decide) ?_
                    refine aw_callVQ (As := [.int (nI (j)), .int (nI (8))]) (rest := [.ref (m)]) (c_X9_periodNow G hMt hσ hc9 hxs (n := 8) (P := 30) (by decide) (fun z hz => fpd_8 (seqL_cOk hz) (seqL_cAll hz)) (by decide)) kX9_periodNow w_1128 qm_1 rfl rfl rfl rfl (Nat.le_of_ble_eq_true rfl) dX9_digest_235 ⟨Nat.le_of_ble_eq_true rfl, Nat.le_of_ble_eq_true rfl⟩ ⟨(show 277 + 142 * j + 142 ≤ 845 by omega), (show 3056 + 1602 * j + 1602 ≤ 9464 by omega)⟩ (fun v_4 h_6 n_4 q_4 z_4 => ?_)
                    obtain ⟨rfl, z_4, o_3⟩ := q_4
                    have f_3 := (o_3 m (by omega)).trans qm_1
                    refine aw_callVQ (As := [.int (perS (sqI σ (nI j)) 8)]) (rest := []) (c_X9_add G f_3) kX9_add w_1179 f_3 rfl rfl rfl rfl (Nat.le_of_ble_eq_true rfl) dX9_digest_238 ⟨Nat.le_of_ble_eq_true rfl, Nat.le_of_ble_eq_true rfl⟩ ⟨(show 277 + 142 * j + 142 + 0 ≤ 845 by omega), (show 3056 + 1602 * j + 1602 + 0 ≤ 9464 by omega)⟩ (fun v_5 h_7 n_5 q_5 z_5 => ?_)
                    obtain ⟨rfl, hn_2, qm_2, qo_2⟩ := q_5
                    have hn_2 := hn_2.symm
                    subst hn_2
                    have hD_2 := hD_1.step z_4 o_3 qm_2 qo_2
                    have le_2 := hD_2.1
                    refine aw_iincN (k := 1) (L' := [(1, .int (nI (j + 1))), (0, .ref (m))]) dX9_digest_241 (by decide) rfl (by decide) rfl ?_
                    refine aw_goto (tgt := 209) dX9_digest_244 (by decide) ?_
                    refine aw_widen (cells' := 277 + 142 * (j + 1)) (slots' := 3056 + 1602 * (j + 1)) (by omega) (by omega) ?_
                    refine aw_sub (L' := [(0, .ref (m)), (1, .int (nI (j + 1)))]) [1, 0] rfl ?_
                    exact ih (j + 1) n_4 (mixD (mixD v (nI (ofSq (sqI σ (nI j)) 0))) (perS (sqI σ (nI j)) 8)) h_7 (by omega) (by omega) (by rw [hv, hsq]; rfl) hD_2
              refine aw_sub (L' := [(0, .ref (m)), (1, .int (nI (0)))]) [1, 0] rfl ?_
              exact K6 (σ.2.1.length + 1) 0 nx2 y h2 (by omega) (Nat.zero_le _) rfl hE
            · skip
              have hil : i < σ.1.length := by have := of_decide_eq_true c2; omega
              refine aw_aload_n dX9_digest_52 rfl ?_
              obtain ⟨fs_2, ff_2⟩ := hJ.2.o
              refine aw_callF (mm' := mJx35411_next_0502b) (x := yItr_next) (As := []) (rest := []) (n := 0) (c_next G hDk hJ.2 (by omega) (by omega) (by rw [hO nx1 (by omega)]; decide) (by omega)) ⟨w_1009, w_25, by decide +kernel⟩ w_1007 w_1005 (fun U hK => hK.2.2.2.2.2.2.2.1.2) (by decide +kernel) w_1002 ff_2 rfl rfl rfl (Nat.le_of_ble_eq_true rfl) dX9_digest_53 ⟨Nat.le_of_ble_eq_true rfl, Nat.le_of_ble_eq_true rfl⟩ ⟨(show 13 + 66 * i + 0 ≤ 845 by omega), (show 64 + 748 * i + 0 ≤ 9464 by omega)⟩ (fun v_6 h_8 n_6 q_6 z_6 => ?_) (fun E h9 n9 q9 => by obtain ⟨v9, e9, -⟩ := q9; cases e9)
              obtain ⟨v_7, hv9, rfl, hn9, I_1, o_4⟩ := q_6
              have hn9 := hn9.symm
              subst hn9
              cases hv9
              obtain ⟨a, b, l, ps, sc, hdd, hC, hb, hbm, hl2, hl16, hc, ha, hsc⟩ := hDD i hil
              obtain ⟨a0, b0, l0, ps0, sc0, hdd0, hC0, hb0, hbm0, hl20, hl160, hc0, ha0, hsc0⟩ := hDD 0 (by omega)
              obtain ⟨dk, hdk⟩ : ∃ dk, dk = ds.getD i 0 := ⟨_, rfl⟩
              obtain ⟨dk0, hdk0⟩ : ∃ dk0, dk0 = ds.getD 0 0 := ⟨_, rfl⟩
              rw [← hdk] at hC hb hbm ⊢
              rw [← hdk0] at hC0 hb0 hbm0
              have hE2 := hE.fr hmn (Nat.le_refl _) (fun b hb => o_4 b (by omega))
              have hJ2 : ItD h_8 nx nx2 m nx1 (i + 1) := ⟨hJ1, I_1⟩
              have hC2 := hE2.C hC hb hbm
              have hC20 := hC2
              obtain ⟨y_1f, y_1g, y_11, y_12, y_13, y_1v⟩ := hC20
              refine aw_castO y_11 rfl rfl w_765 dX9_digest_58 ?_
              refine aw_astore_n (L' := [(2, .ref (dk)), (0, .ref (m)), (1, .ref (nx1))]) dX9_digest_61 (by decide) rfl ?_
              refine aw_ic dX9_digest_62 ic_0 ?_
              refine aw_istore_n (L' := [(3, .int (nI (0))), (2, .ref (dk)), (0, .ref (m)), (1, .ref (nx1))]) dX9_digest_63 (by decide) rfl ?_
              refine aw_widen (cells' := 13 + 66 * i + 3 * 0) (slots' := 64 + 748 * i + 34 * 0) (by omega) (by omega) ?_
              have K3 : ∀ (d : Nat) (t nx3 : Nat) (x3 : Int64) (h3 : aH), 11 - t < d → (t ≤ 11) → (x3 = dgA (l, ps, sc) y t) → (DgN h h3 nx nx3 m σ.2.2 x3) → (ItD h3 nx nx3 m nx1 (i + 1)) → aw G mX9_digest [] (aRoom 20 845 9464) (aEnd G (pQ (fun v h1 n1 => v = some (.long (digV σ)) ∧ ∃ x, DgN h h1 nx n1 m σ.2.2 x)) 845 9464) (13 + 66 * i + 3 * t) (64 + 748 * i + 34 * t) h3 nx3 64 [(0, .ref (m)), (1, .ref (nx1)), (2, .ref (dk)), (3, .int (nI (t)))] [] := by
                intro d
                induction d with
                | zero => intro t nx3 x3 h3 hMd; exact absurd hMd (Nat.not_lt_zero _)
                | succ d ih =>
                  intro t nx3 x3 h3 hMd ht hx3 hD3 hI3
                  have le3 := hD3.1
                  have it3 := hI3.1
                  have hC3 := hD3.C hC hb hbm
                  have hC30 := hC3
                  refine aw_iload_n dX9_digest_64 rfl ?_
                  refine aw_bp (v := 11) dX9_digest_65 (by decide) ?_
                  refine aw_icmp_geN (tgt := 85) (by omega) (by omega) dX9_digest_67 (by decide) (fun c3 => ?_) (fun c3 => ?_)
                  · skip
                    have ht11 : t = 11 := by omega
                    subst ht11
                    refine aw_ic dX9_digest_85 ic_0 ?_
                    refine aw_istore_n (L' := [(3, .int (nI (0))), (0, .ref (m)), (1, .ref (nx1)), (2, .ref (dk))]) dX9_digest_86 (by decide) rfl ?_
                    refine aw_widen (cells' := 46 + 66 * i + 3 * 0) (slots' := 438 + 748 * i + 34 * 0) (by omega) (by omega) ?_
                    have K4 : ∀ (d : Nat) (t nx4 : Nat) (x4 : Int64) (h4 : aH), 6 - t < d → (t ≤ 6) → (x4 = dgB (l, ps, sc) x3 t) → (DgN h h4 nx nx4 m σ.2.2 x4) → (ItD h4 nx nx4 m nx1 (i + 1)) → aw G mX9_digest [] (aRoom 20 845 9464) (aEnd G (pQ (fun v h1 n1 => v = some (.long (digV σ)) ∧ ∃ x, DgN h h1 nx n1 m σ.2.2 x)) 845 9464) (46 + 66 * i + 3 * t) (438 + 748 * i + 34 * t) h4 nx4 87 [(0, .ref (m)), (1, .ref (nx1)), (2, .ref (dk)), (3, .int (nI (t)))] [] := by
                      intro d
                      induction d with
                      | zero => intro t nx4 x4 h4 hMd; exact absurd hMd (Nat.not_lt_zero _)
                      | succ d ih =>
                        intro t nx4 x4 h4 hMd ht hx4 hD4 hI4
                        have le4 := hD4.1
                        have it4 := hI4.1
                        have hC4 := hD4.C hC hb hbm
                        have hC40 := hC4
                        refine aw_iload_n dX9_digest_87 rfl ?_
                        refine aw_bp (v := 6) dX9_digest_88 (by decide) ?_
                        refine aw_icmp_geN (tgt := 116) (by omega) (by omega) dX9_digest_90 (by decide) (fun c4 => ?_) (fun c4 => ?_)
                        · skip
                          have ht6 : t = 6 := by omega
                          subst ht6
                          refine aw_ic dX9_digest_116 ic_0 ?_
                          refine aw_istore_n (L' := [(3, .int (nI (0))), (0, .ref (m)), (1, .ref (nx1)), (2, .ref (dk))]) dX9_digest_117 (by decide) rfl ?_
                          refine aw_widen (cells' := 64 + 66 * i + 0 * 0) (slots' := 642 + 748 * i + 0 * 0) (by omega) (by omega) ?_
                          have K5 : ∀ (d : Nat) (t nx5 : Nat) (x5 : Int64) (h5 : aH), l.length - t < d → (t ≤ l.length) → (x5 = dgC l x4 t) → (DgN h h5 nx nx5 m σ.2.2 x5) → (ItD h5 nx nx5 m nx1 (i + 1)) → aw G mX9_digest [] (aRoom 20 845 9464) (aEnd G (pQ (fun v h1 n1 => v = some (.long (digV σ)) ∧ ∃ x, DgN h h1 nx n1 m σ.2.2 x)) 845 9464) (64 + 66 * i + 0 * t) (642 + 748 * i + 0 * t) h5 nx5 118 [(0, .ref (m)), (1, .ref (nx1)), (2, .ref (dk)), (3, .int (nI (t)))] [] := by
                            intro d
                            induction d with
                            | zero => intro t nx5 x5 h5 hMd; exact absurd hMd (Nat.not_lt_zero _)
                            | succ d ih =>
                              intro t nx5 x5 h5 hMd ht hx5 hD5 hI5
                              have le5 := hD5.1
                              have it5 := hI5.1
                              have hC5 := hD5.C hC hb hbm
                              have hC50 := hC5
                              obtain ⟨y_2f, y_2g, y_21, y_22, y_23, y_2v⟩ := hC50
                              refine aw_iload_n dX9_digest_118 rfl ?_
                              refine aw_aload_n dX9_digest_119 rfl ?_
                              refine aw_callVR (As := []) (rest := [.int (nI (t))]) (c_X7_size G hC5 hc hl16) kX7_size w_868 y_21 rfl rfl rfl rfl (Nat.le_of_ble_eq_true rfl) dX9_digest_120 ⟨Nat.le_of_ble_eq_true rfl, Nat.le_of_ble_eq_true rfl⟩ ⟨(show 64 + 66 * i + 0 * t + 0 ≤ 845 by omega), (show 642 + 748 * i + 0 * t + 0 ≤ 9464 by omega)⟩ ?_
                              refine aw_icmp_geN (tgt := 169) (by omega) (by omega) dX9_digest_123 (by decide) (fun c5 => ?_) (fun c5 => ?_)
                              · skip
                                have htl : t = l.length := by omega
                                refine aw_aload_n dX9_digest_169 rfl ?_
                                refine aw_aload_n dX9_digest_170 rfl ?_
                                refine aw_callSQ (As := [.ref (dk)]) (rest := [.ref (m)]) (c_X9_bestNow G hC5 hc hl16 ⟨by omega, by omega, by omega⟩ hl2) kX9_bestNow w_1163 rfl rfl (Nat.le_of_ble_eq_true rfl) dX9_digest_171 ⟨Nat.le_of_ble_eq_true rfl, Nat.le_of_ble_eq_true rfl⟩ ⟨(show 64 + 66 * i + 0 * t + 15 ≤ 845 by omega), (show 642 + 748 * i + 0 * t + 170 ≤ 9464 by omega)⟩ (fun v_8 h_9 n_7 q_7 z_7 => ?_)
                                obtain ⟨rfl, z_7, o_5⟩ := q_7
                                have f_4 := (o_5 m (by omega)).trans hD5.2.1
                                refine aw_callVQ (As := [.int (bestV l)]) (rest := []) (c_X9_add G f_4) kX9_add w_1179 f_4 rfl rfl rfl rfl (Nat.le_of_ble_eq_true rfl) dX9_digest_174 ⟨Nat.le_of_ble_eq_true rfl, Nat.le_of_ble_eq_true rfl⟩ ⟨(show 64 + 66 * i + 0 * t + 15 + 0 ≤ 845 by omega), (show 642 + 748 * i + 0 * t + 170 + 0 ≤ 9464 by omega)⟩ (fun v_9 h_10 n_8 q_8 z_8 => ?_)
                                obtain ⟨rfl, hn_3, qm_3, qo_3⟩ := q_8
                                have hn_3 := hn_3.symm
                                subst hn_3
                                have hD_3 := hD5.step z_7 o_5 qm_3 qo_3
                                have hI_1 := hI5.step hD5.1 z_7 o_5 qo_3
                                have le_3 := hD_3.1
                                have hC6 := hD_3.C hC hb hbm
                                refine aw_aload_n dX9_digest_177 rfl ?_
                                refine aw_aload_n dX9_digest_178 rfl ?_
                                refine aw_callSR (As := [.ref (dk)]) (rest := [.ref (m)]) (c_X9_riffleNow G hC6 hc hl16 ha (by omega)) kX9_riffleNow w_1171 rfl rfl (Nat.le_of_ble_eq_true rfl) dX9_digest_179 ⟨Nat.le_of_ble_eq_true rfl, Nat.le_of_ble_eq_true rfl⟩ ⟨(show 64 + 66 * i + 0 * t + 15 + 0 ≤ 845 by omega), (show 642 + 748 * i + 0 * t + 170 + 0 ≤ 9464 by omega)⟩ ?_
                                rw [← rif_same hc ha hl2]
                                refine aw_callVQ (As := [.int (rifV l)]) (rest := []) (c_X9_add G qm_3) kX9_add w_1179 qm_3 rfl rfl rfl rfl (Nat.le_of_ble_eq_true rfl) dX9_digest_182 ⟨Nat.le_of_ble_eq_true rfl, Nat.le_of_ble_eq_true rfl⟩ ⟨(show 64 + 66 * i + 0 * t + 15 + 0 ≤ 845 by omega), (show 642 + 748 * i + 0 * t + 170 + 0 ≤ 9464 by omega)⟩ (fun v_10 h_11 n_9 q_9 z_9 => ?_)
                                obtain ⟨rfl, hn_4, qm_4, qo_4⟩ := q_9
                                have hn_4 := hn_4.symm
                                subst hn_4
                                have hD_4 := hD_3.step (Nat.le_refl _) (fun _ _ => rfl) qm_4 qo_4
                                have hI_2 := hI_1.step hD_3.1 (Nat.le_refl _) (fun _ _ => rfl) qo_4
                                have le_4 := hD_4.1
                                have hC7 := hD_4.C hC hb hbm
                                have hC8 := hD_4.C hC0 hb0 hbm0
                                have hD8 := hD_4.L hDL hO om (by decide)
                                have hD80 := hD8
                                obtain ⟨u_31, u_3m, u_3e, u_32, u_33, u_34⟩ := hD80
                                refine aw_aload_n dX9_digest_185 rfl ?_
                                refine aw_aload_n dX9_digest_186 rfl ?_
                                refine aw_aload_n dX9_digest_187 rfl ?_
                                refine aw_get 1 qm_4 rfl rfl (by decide) w_731 rfl dX9_digest_188 ?_
                                refine aw_ic dX9_digest_191 ic_0 ?_
                                refine aw_callVR (As := [.int (nI (0))]) (rest := [.ref (dk), .ref (m)]) (c_Lget G hD8 (i := 0) (by omega) (by omega)) kJx4a65c_get_915e3 w_854 u_32 rfl rfl rfl rfl (Nat.le_of_ble_eq_true rfl) dX9_digest_192 ⟨Nat.le_of_ble_eq_true rfl, Nat.le_of_ble_eq_true rfl⟩ ⟨(show 64 + 66 * i + 0 * t + 15 + 0 ≤ 845 by omega), (show 642 + 748 * i + 0 * t + 170 + 0 ≤ 9464 by omega)⟩ ?_
                                rw [← hdk0]
                                have hC80 := hC8
                                obtain ⟨y_3f, y_3g, y_31, y_32, y_33, y_3v⟩ := hC80
                                refine aw_castO y_31 rfl rfl w_765 dX9_digest_195 ?_
                                refine aw_callSR (As := [.ref (dk), .ref (dk0)]) (rest := [.ref (m)]) (c_X9_alikeNow G hC7 hc hl16 hC8 hc0 hl160) kX9_alikeNow w_1112 rfl rfl (Nat.le_of_ble_eq_true rfl) dX9_digest_198 ⟨Nat.le_of_ble_eq_true rfl, Nat.le_of_ble_eq_true rfl⟩ ⟨(show 64 + 66 * i + 0 * t + 15 + 0 ≤ 845 by omega), (show 642 + 748 * i + 0 * t + 170 + 0 ≤ 9464 by omega)⟩ ?_
                                refine aw_callVQ (As := [.int (nI (alk l l0 (min l.length l0.length)))]) (rest := []) (c_X9_add G qm_4) kX9_add w_1179 qm_4 rfl rfl rfl rfl (Nat.le_of_ble_eq_true rfl) dX9_digest_201 ⟨Nat.le_of_ble_eq_true rfl, Nat.le_of_ble_eq_true rfl⟩ ⟨(show 64 + 66 * i + 0 * t + 15 + 0 ≤ 845 by omega), (show 642 + 748 * i + 0 * t + 170 + 0 ≤ 9464 by omega)⟩ (fun v_11 h_12 n_10 q_10 z_10 => ?_)
                                obtain ⟨rfl, hn_5, qm_5, qo_5⟩ := q_10
                                have hn_5 := hn_5.symm
                                subst hn_5
                                have hD_5 := hD_4.step (Nat.le_refl _) (fun _ _ => rfl) qm_5 qo_5
                                have hI_3 := hI_2.step hD_4.1 (Nat.le_refl _) (fun _ _ => rfl) qo_5
                                have le_5 := hD_5.1
                                refine aw_goto (tgt := 43) dX9_digest_204 (by decide) ?_
                                refine aw_widen (cells' := 13 + 66 * (i + 1)) (slots' := 64 + 748 * (i + 1)) (by omega) (by omega) ?_
                                refine aw_sub (L' := [(0, .ref (m)), (1, .ref (nx1))]) [0, 1] rfl ?_
                                exact ih2 (i + 1) n_7 (mixD (mixD (mixD x5 (bestV l)) (rifV l)) (nI (alk l l0 (min l.length l0.length)))) h_12 (by omega) (by omega) (by show _ = dgD σ _ i; unfold dgD; rw [hdd, hdd0]; show _ = mixD (mixD (mixD (dgC l (dgB (l, ps, sc) (dgA (l, ps, sc) (dgDs σ (dgM σ 6) i) 11) 6) l.length) (bestV l)) (rifV l)) (nI (alk l l0 (min l.length l0.length))); rw [hx5, hx4, hx3, ← hy, htl]) hD_5 hI_3
                              · skip
                                have hcp := hc.lt (i := t) c5
                                refine aw_aload_n dX9_digest_126 rfl ?_
                                refine aw_aload_n dX9_digest_127 rfl ?_
                                refine aw_getN 0 y_21 rfl rfl (by decide) w_774 rfl dX9_digest_128 ?_
                                refine aw_iload_n dX9_digest_131 rfl ?_
                                refine aw_iaload y_22 (by omega) (by omega) dX9_digest_132 ?_
                                refine aw_top (show (y_2f t) = (nI (l.getD t 0 / 2)) from (y_2v t c5).1) ?_
                                refine aw_callVQ (As := [.int (nI (l.getD t 0 / 2))]) (rest := []) (c_X9_add G hD5.2.1) kX9_add w_1179 hD5.2.1 rfl rfl rfl rfl (Nat.le_of_ble_eq_true rfl) dX9_digest_133 ⟨Nat.le_of_ble_eq_true rfl, Nat.le_of_ble_eq_true rfl⟩ ⟨(show 64 + 66 * i + 0 * t + 0 ≤ 845 by omega), (show 642 + 748 * i + 0 * t + 0 ≤ 9464 by omega)⟩ (fun v_12 h_13 n_11 q_11 z_11 => ?_)
                                obtain ⟨rfl, hn_6, qm_6, qo_6⟩ := q_11
                                have hn_6 := hn_6.symm
                                subst hn_6
                                have hD_6 := hD5.step (Nat.le_refl _) (fun _ _ => rfl) qm_6 qo_6
                                have hI_4 := hI5.step hD5.1 (Nat.le_refl _) (fun _ _ => rfl) qo_6
                                have le_6 := hD_6.1
                                have hCa := hD_6.C hC hb hbm
                                have hCa0 := hCa
                                obtain ⟨y_4f, y_4g, y_41, y_42, y_43, y_4v⟩ := hCa0
                                refine aw_aload_n dX9_digest_136 rfl ?_
                                refine aw_aload_n dX9_digest_137 rfl ?_
                                refine aw_getN 1 y_41 rfl rfl (by decide) w_776 rfl dX9_digest_138 ?_
                                refine aw_iload_n dX9_digest_141 rfl ?_
                                refine aw_zaload y_43 (by omega) (by omega) dX9_digest_142 ?_
                                refine aw_top (show (y_4g t) = (bI (decide (l.getD t 0 % 2 = 1))) from (y_4v t c5).2) ?_
                                refine aw_if_eqB (tgt := 150) dX9_digest_143 (by decide) (fun cu => ?_) (fun cu => ?_)
                                · skip
                                  have hmod : l.getD t 0 % 2 = 0 := by have := of_decide_eq_false cu; omega
                                  refine aw_ic dX9_digest_150 ic_0 ?_
                                  refine aw_callVQ (As := [.int (nI (0))]) (rest := []) (c_X9_add G qm_6) kX9_add w_1179 qm_6 rfl rfl rfl rfl (Nat.le_of_ble_eq_true rfl) dX9_digest_151 ⟨Nat.le_of_ble_eq_true rfl, Nat.le_of_ble_eq_true rfl⟩ ⟨(show 64 + 66 * i + 0 * t + 0 ≤ 845 by omega), (show 642 + 748 * i + 0 * t + 0 ≤ 9464 by omega)⟩ (fun v_13 h_14 n_12 q_12 z_12 => ?_)
                                  obtain ⟨rfl, hn_7, qm_7, qo_7⟩ := q_12
                                  have hn_7 := hn_7.symm
                                  subst hn_7
                                  have hD_7 := hD_6.step (Nat.le_refl _) (fun _ _ => rfl) qm_7 qo_7
                                  have hI_5 := hI_4.step hD_6.1 (Nat.le_refl _) (fun _ _ => rfl) qo_7
                                  have le_7 := hD_7.1
                                  have hCb := hD_7.C hC hb hbm
                                  refine aw_aload_n dX9_digest_154 rfl ?_
                                  refine aw_aload_n dX9_digest_155 rfl ?_
                                  refine aw_iload_n dX9_digest_156 rfl ?_
                                  refine aw_callSR (As := [.ref (dk), .int (nI (t))]) (rest := [.ref (m)]) (c_X9_toTopNow G hCb hc hl16 hl2 (j := t) c5) kX9_toTopNow w_1148 rfl rfl (Nat.le_of_ble_eq_true rfl) dX9_digest_157 ⟨Nat.le_of_ble_eq_true rfl, Nat.le_of_ble_eq_true rfl⟩ ⟨(show 64 + 66 * i + 0 * t + 0 ≤ 845 by omega), (show 642 + 748 * i + 0 * t + 0 ≤ 9464 by omega)⟩ ?_
                                  refine aw_callVQ (As := [.int (toT l t)]) (rest := []) (c_X9_add G qm_7) kX9_add w_1179 qm_7 rfl rfl rfl rfl (Nat.le_of_ble_eq_true rfl) dX9_digest_160 ⟨Nat.le_of_ble_eq_true rfl, Nat.le_of_ble_eq_true rfl⟩ ⟨(show 64 + 66 * i + 0 * t + 0 ≤ 845 by omega), (show 642 + 748 * i + 0 * t + 0 ≤ 9464 by omega)⟩ (fun v_14 h_15 n_13 q_13 z_13 => ?_)
                                  obtain ⟨rfl, hn_8, qm_8, qo_8⟩ := q_13
                                  have hn_8 := hn_8.symm
                                  subst hn_8
                                  have hD_8 := hD_7.step (Nat.le_refl _) (fun _ _ => rfl) qm_8 qo_8
                                  have hI_6 := hI_5.step hD_7.1 (Nat.le_refl _) (fun _ _ => rfl) qo_8
                                  have le_8 := hD_8.1
                                  refine aw_iincN (k := 1) (L' := [(3, .int (nI (t + 1))), (0, .ref (m)), (1, .ref (nx1)), (2, .ref (dk))]) dX9_digest_163 (by decide) rfl (by decide) rfl ?_
                                  refine aw_goto (tgt := 118) dX9_digest_166 (by decide) ?_
                                  refine aw_widen (cells' := 64 + 66 * i + 0 * (t + 1)) (slots' := 642 + 748 * i + 0 * (t + 1)) (by omega) (by omega) ?_
                                  refine aw_sub (L' := [(0, .ref (m)), (1, .ref (nx1)), (2, .ref (dk)), (3, .int (nI (t + 1)))]) [1, 2, 3, 0] rfl ?_
                                  exact ih (t + 1) nx5 (mixD (mixD (mixD x5 (nI (l.getD t 0 / 2))) (nI 0)) (toT l t)) h_15 (by omega) (by omega) (by show _ = mixD (mixD (mixD (dgC l x4 t) (nI (l.getD t 0 / 2))) (nI (l.getD (ixOf l (l.getD t 0 / 2)) 0 % 2))) (toT l t); rw [hx5, ixOf_cd hc ha (i := t) c5, hmod]) hD_8 hI_6
                                · skip
                                  have hmod : l.getD t 0 % 2 = 1 := of_decide_eq_true cu
                                  refine aw_ic dX9_digest_146 ic_1 ?_
                                  refine aw_goto (tgt := 151) dX9_digest_147 (by decide) ?_
                                  refine aw_callVQ (As := [.int (nI (1))]) (rest := []) (c_X9_add G qm_6) kX9_add w_1179 qm_6 rfl rfl rfl rfl (Nat.le_of_ble_eq_true rfl) dX9_digest_151 ⟨Nat.le_of_ble_eq_true rfl, Nat.le_of_ble_eq_true rfl⟩ ⟨(show 64 + 66 * i + 0 * t + 0 ≤ 845 by omega), (show 642 + 748 * i + 0 * t + 0 ≤ 9464 by omega)⟩ (fun v_15 h_16 n_14 q_14 z_14 => ?_)
                                  obtain ⟨rfl, hn_9, qm_9, qo_9⟩ := q_14
                                  have hn_9 := hn_9.symm
                                  subst hn_9
                                  have hD_9 := hD_6.step (Nat.le_refl _) (fun _ _ => rfl) qm_9 qo_9
                                  have hI_7 := hI_4.step hD_6.1 (Nat.le_refl _) (fun _ _ => rfl) qo_9
                                  have le_9 := hD_9.1
                                  have hCb := hD_9.C hC hb hbm
                                  refine aw_aload_n dX9_digest_154 rfl ?_
                                  refine aw_aload_n dX9_digest_155 rfl ?_
                                  refine aw_iload_n dX9_digest_156 rfl ?_
                                  refine aw_callSR (As := [.ref (dk), .int (nI (t))]) (rest := [.ref (m)]) (c_X9_toTopNow G hCb hc hl16 hl2 (j := t) c5) kX9_toTopNow w_1148 rfl rfl (Nat.le_of_ble_eq_true rfl) dX9_digest_157 ⟨Nat.le_of_ble_eq_true rfl, Nat.le_of_ble_eq_true rfl⟩ ⟨(show 64 + 66 * i + 0 * t + 0 ≤ 845 by omega), (show 642 + 748 * i + 0 * t + 0 ≤ 9464 by omega)⟩ ?_
                                  refine aw_callVQ (As := [.int (toT l t)]) (rest := []) (c_X9_add G qm_9) kX9_add w_1179 qm_9 rfl rfl rfl rfl (Nat.le_of_ble_eq_true rfl) dX9_digest_160 ⟨Nat.le_of_ble_eq_true rfl, Nat.le_of_ble_eq_true rfl⟩ ⟨(show 64 + 66 * i + 0 * t + 0 ≤ 845 by omega), (show 642 + 748 * i + 0 * t + 0 ≤ 9464 by omega)⟩ (fun v_16 h_17 n_15 q_15 z_15 => ?_)
                                  obtain ⟨rfl, hn_10, qm_10, qo_10⟩ := q_15
                                  have hn_10 := hn_10.symm
                                  subst hn_10
                                  have hD_10 := hD_9.step (Nat.le_refl _) (fun _ _ => rfl) qm_10 qo_10
                                  have hI_8 := hI_7.step hD_9.1 (Nat.le_refl _) (fun _ _ => rfl) qo_10
                                  have le_10 := hD_10.1
                                  refine aw_iincN (k := 1) (L' := [(3, .int (nI (t + 1))), (0, .ref (m)), (1, .ref (nx1)), (2, .ref (dk))]) dX9_digest_163 (by decide) rfl (by decide) rfl ?_
                                  refine aw_goto (tgt := 118) dX9_digest_166 (by decide) ?_
                                  refine aw_widen (cells' := 64 + 66 * i + 0 * (t + 1)) (slots' := 642 + 748 * i + 0 * (t + 1)) (by omega) (by omega) ?_
                                  refine aw_sub (L' := [(0, .ref (m)), (1, .ref (nx1)), (2, .ref (dk)), (3, .int (nI (t + 1)))]) [1, 2, 3, 0] rfl ?_
                                  exact ih (t + 1) nx5 (mixD (mixD (mixD x5 (nI (l.getD t 0 / 2))) (nI 1)) (toT l t)) h_17 (by omega) (by omega) (by show _ = mixD (mixD (mixD (dgC l x4 t) (nI (l.getD t 0 / 2))) (nI (l.getD (ixOf l (l.getD t 0 / 2)) 0 % 2))) (toT l t); rw [hx5, ixOf_cd hc ha (i := t) c5, hmod]) hD_10 hI_8
                          refine aw_sub (L' := [(0, .ref (m)), (1, .ref (nx1)), (2, .ref (dk)), (3, .int (nI (0)))]) [1, 2, 3, 0] rfl ?_
                          exact K5 (l.length + 1) 0 nx4 x4 h4 (by omega) (Nat.zero_le _) rfl hD4 hI4
                        · skip
                          refine aw_aload_n dX9_digest_93 rfl ?_
                          refine aw_aload_n dX9_digest_94 rfl ?_
                          refine aw_iload_n dX9_digest_95 rfl ?_
                          refine aw_callSQ (As := [.ref (dk), .int (nI (t))]) (rest := [.ref (m)]) (c_X9_keepsNow G hC4 hc hl16 ⟨by omega, by omega, by omega⟩ (ps := ps) hl2 ha hsc (u := t) (by omega)) kX9_keepsNow w_1074 rfl rfl (Nat.le_of_ble_eq_true rfl) dX9_digest_96 ⟨Nat.le_of_ble_eq_true rfl, Nat.le_of_ble_eq_true rfl⟩ ⟨(show 46 + 66 * i + 3 * t + 3 ≤ 845 by omega), (show 438 + 748 * i + 34 * t + 34 ≤ 9464 by omega)⟩ (fun v_17 h_18 n_16 q_16 z_16 => ?_)
                          obtain ⟨rfl, z_16, o_6⟩ := q_16
                          have f_5 := (o_6 m (by omega)).trans hD4.2.1
                          refine aw_if_eqB (tgt := 106) dX9_digest_99 (by decide) (fun ck => ?_) (fun ck => ?_)
                          · skip
                            refine aw_ic dX9_digest_106 ic_0 ?_
                            refine aw_callVQ (As := [.int (nI (0))]) (rest := []) (c_X9_add G f_5) kX9_add w_1179 f_5 rfl rfl rfl rfl (Nat.le_of_ble_eq_true rfl) dX9_digest_107 ⟨Nat.le_of_ble_eq_true rfl, Nat.le_of_ble_eq_true rfl⟩ ⟨(show 46 + 66 * i + 3 * t + 3 + 0 ≤ 845 by omega), (show 438 + 748 * i + 34 * t + 34 + 0 ≤ 9464 by omega)⟩ (fun v_18 h_19 n_17 q_17 z_17 => ?_)
                            obtain ⟨rfl, hn_11, qm_11, qo_11⟩ := q_17
                            have hn_11 := hn_11.symm
                            subst hn_11
                            have hD_11 := hD4.step z_16 o_6 qm_11 qo_11
                            have hI_9 := hI4.step hD4.1 z_16 o_6 qo_11
                            have le_11 := hD_11.1
                            refine aw_iincN (k := 1) (L' := [(3, .int (nI (t + 1))), (0, .ref (m)), (1, .ref (nx1)), (2, .ref (dk))]) dX9_digest_110 (by decide) rfl (by decide) rfl ?_
                            refine aw_goto (tgt := 87) dX9_digest_113 (by decide) ?_
                            refine aw_widen (cells' := 46 + 66 * i + 3 * (t + 1)) (slots' := 438 + 748 * i + 34 * (t + 1)) (by omega) (by omega) ?_
                            refine aw_sub (L' := [(0, .ref (m)), (1, .ref (nx1)), (2, .ref (dk)), (3, .int (nI (t + 1)))]) [1, 2, 3, 0] rfl ?_
                            exact ih (t + 1) n_16 (mixD x4 (nI 0)) h_19 (by omega) (by omega) (by show _ = mixD (dgB (l, ps, sc) x3 t) (bI (kpDk (l, ps, sc) t)); rw [ck, hx4]; rfl) hD_11 hI_9
                          · skip
                            refine aw_ic dX9_digest_102 ic_1 ?_
                            refine aw_goto (tgt := 107) dX9_digest_103 (by decide) ?_
                            refine aw_callVQ (As := [.int (nI (1))]) (rest := []) (c_X9_add G f_5) kX9_add w_1179 f_5 rfl rfl rfl rfl (Nat.le_of_ble_eq_true rfl) dX9_digest_107 ⟨Nat.le_of_ble_eq_true rfl, Nat.le_of_ble_eq_true rfl⟩ ⟨(show 46 + 66 * i + 3 * t + 3 + 0 ≤ 845 by omega), (show 438 + 748 * i + 34 * t + 34 + 0 ≤ 9464 by omega)⟩ (fun v_19 h_20 n_18 q_18 z_18 => ?_)
                            obtain ⟨rfl, hn_12, qm_12, qo_12⟩ := q_18
                            have hn_12 := hn_12.symm
                            subst hn_12
                            have hD_12 := hD4.step z_16 o_6 qm_12 qo_12
                            have hI_10 := hI4.step hD4.1 z_16 o_6 qo_12
                            have le_12 := hD_12.1
                            refine aw_iincN (k := 1) (L' := [(3, .int (nI (t + 1))), (0, .ref (m)), (1, .ref (nx1)), (2, .ref (dk))]) dX9_digest_110 (by decide) rfl (by decide) rfl ?_
                            refine aw_goto (tgt := 87) dX9_digest_113 (by decide) ?_
                            refine aw_widen (cells' := 46 + 66 * i + 3 * (t + 1)) (slots' := 438 + 748 * i + 34 * (t + 1)) (by omega) (by omega) ?_
                            refine aw_sub (L' := [(0, .ref (m)), (1, .ref (nx1)), (2, .ref (dk)), (3, .int (nI (t + 1)))]) [1, 2, 3, 0] rfl ?_
                            exact ih (t + 1) n_16 (mixD x4 (nI 1)) h_20 (by omega) (by omega) (by show _ = mixD (dgB (l, ps, sc) x3 t) (bI (kpDk (l, ps, sc) t)); rw [ck, hx4]; rfl) hD_12 hI_10
                    refine aw_sub (L' := [(0, .ref (m)), (1, .ref (nx1)), (2, .ref (dk)), (3, .int (nI (0)))]) [1, 2, 3, 0] rfl ?_
                    exact K4 7 0 nx3 x3 h3 (by omega) (Nat.zero_le _) rfl hD3 hI3
                  · skip
                    refine aw_aload_n dX9_digest_70 rfl ?_
                    refine aw_aload_n dX9_digest_71 rfl ?_
                    refine aw_iload_n dX9_digest_72 rfl ?_
                    refine aw_callSQ (As := [.ref (dk), .int (nI (t))]) (rest := [.ref (m)]) (c_X9_ofDeckNow G hC3 hc hl16 ⟨by omega, by omega, by omega⟩ (ps := ps) hl2 ha hsc (u := t) (by omega)) kX9_ofDeckNow w_1032 rfl rfl (Nat.le_of_ble_eq_true rfl) dX9_digest_73 ⟨Nat.le_of_ble_eq_true rfl, Nat.le_of_ble_eq_true rfl⟩ ⟨(show 13 + 66 * i + 3 * t + 3 ≤ 845 by omega), (show 64 + 748 * i + 34 * t + 34 ≤ 9464 by omega)⟩ (fun v_20 h_21 n_19 q_19 z_19 => ?_)
                    obtain ⟨rfl, z_19, o_7⟩ := q_19
                    have f_6 := (o_7 m (by omega)).trans hD3.2.1
                    refine aw_callVQ (As := [.int (nI (ofDk (l, ps, sc) t))]) (rest := []) (c_X9_add G f_6) kX9_add w_1179 f_6 rfl rfl rfl rfl (Nat.le_of_ble_eq_true rfl) dX9_digest_76 ⟨Nat.le_of_ble_eq_true rfl, Nat.le_of_ble_eq_true rfl⟩ ⟨(show 13 + 66 * i + 3 * t + 3 + 0 ≤ 845 by omega), (show 64 + 748 * i + 34 * t + 34 + 0 ≤ 9464 by omega)⟩ (fun v_21 h_22 n_20 q_20 z_20 => ?_)
                    obtain ⟨rfl, hn_13, qm_13, qo_13⟩ := q_20
                    have hn_13 := hn_13.symm
                    subst hn_13
                    have hD_13 := hD3.step z_19 o_7 qm_13 qo_13
                    have hI_11 := hI3.step hD3.1 z_19 o_7 qo_13
                    have le_13 := hD_13.1
                    refine aw_iincN (k := 1) (L' := [(3, .int (nI (t + 1))), (0, .ref (m)), (1, .ref (nx1)), (2, .ref (dk))]) dX9_digest_79 (by decide) rfl (by decide) rfl ?_
                    refine aw_goto (tgt := 64) dX9_digest_82 (by decide) ?_
                    refine aw_widen (cells' := 13 + 66 * i + 3 * (t + 1)) (slots' := 64 + 748 * i + 34 * (t + 1)) (by omega) (by omega) ?_
                    refine aw_sub (L' := [(0, .ref (m)), (1, .ref (nx1)), (2, .ref (dk)), (3, .int (nI (t + 1)))]) [1, 2, 3, 0] rfl ?_
                    exact ih (t + 1) n_19 (mixD x3 (nI (ofDk (l, ps, sc) t))) h_22 (by omega) (by omega) (by rw [hx3]; rfl) hD_13 hI_11
              refine aw_sub (L' := [(0, .ref (m)), (1, .ref (nx1)), (2, .ref (dk)), (3, .int (nI (0)))]) [2, 3, 1, 0] rfl ?_
              exact K3 12 0 nx2 y h_8 (by omega) (Nat.zero_le _) rfl hE2 hJ2
        refine aw_sub (L' := [(0, .ref (m)), (1, .ref (nx1))]) [1, 0] rfl ?_
        exact K2 (σ.1.length + 1) 0 (nx1 + 1) x h_3 (by omega) (Nat.zero_le _) hx hD2 hI2
      · skip
        refine aw_aload_n dX9_digest_20 rfl ?_
        refine aw_aload_n dX9_digest_21 rfl ?_
        refine aw_iload_n dX9_digest_22 rfl ?_
        refine aw_callVQ (As := [.int (nI (k))]) (rest := [.ref (m)]) (c_X9_manyNow G hMk hσ hc9 (u := k) (by omega)) kX9_manyNow w_1140 hD.2.1 rfl rfl rfl rfl (Nat.le_of_ble_eq_true rfl) dX9_digest_23 ⟨Nat.le_of_ble_eq_true rfl, Nat.le_of_ble_eq_true rfl⟩ ⟨(show 2 * k + 2 ≤ 845 by omega), (show 10 * k + 10 ≤ 9464 by omega)⟩ (fun v_22 h_23 n_21 q_21 z_21 => ?_)
        obtain ⟨rfl, z_21, o_8⟩ := q_21
        have f_7 := (o_8 m (by omega)).trans hD.2.1
        refine aw_callVQ (As := [.int (nI (manyS σ k))]) (rest := []) (c_X9_add G f_7) kX9_add w_1179 f_7 rfl rfl rfl rfl (Nat.le_of_ble_eq_true rfl) dX9_digest_26 ⟨Nat.le_of_ble_eq_true rfl, Nat.le_of_ble_eq_true rfl⟩ ⟨(show 2 * k + 2 + 0 ≤ 845 by omega), (show 10 * k + 10 + 0 ≤ 9464 by omega)⟩ (fun v_23 h_24 n_22 q_22 z_22 => ?_)
        obtain ⟨rfl, hn_14, qm_14, qo_14⟩ := q_22
        have hn_14 := hn_14.symm
        subst hn_14
        have hD_14 := hD.step z_21 o_8 qm_14 qo_14
        have le_14 := hD_14.1
        refine aw_iincN (k := 1) (L' := [(1, .int (nI (k + 1))), (0, .ref (m))]) dX9_digest_29 (by decide) rfl (by decide) rfl ?_
        refine aw_goto (tgt := 14) dX9_digest_32 (by decide) ?_
        refine aw_widen (cells' := 2 * (k + 1)) (slots' := 10 * (k + 1)) (by omega) (by omega) ?_
        refine aw_sub (L' := [(0, .ref (m)), (1, .int (nI (k + 1)))]) [1, 0] rfl ?_
        exact ih (k + 1) n_21 (mixD x (nI (manyS σ k))) h_24 (by omega) (by omega) (by rw [hx]; rfl) hD_14
  refine aw_sub (L' := [(0, .ref (m)), (1, .int (nI (0)))]) [1, 0] rfl ?_
  exact K 7 0 nx 58304 h_2 (by omega) (Nat.zero_le _) rfl hD0
