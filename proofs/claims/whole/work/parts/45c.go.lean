set_option maxHeartbeats 4000000 in
set_option maxRecDepth 20000 in
theorem law_go (G : aG) {b L q : Nat} {xs : Nat → Int32} (hL : L ≤ 2560) (hG : G.2.2.2 < q) : aw G mL_law [] room_1 (lawQ G b L xs) 0 0 (fun _ => none) q 0 [(0, .ref (b))] [] := by
  refine aw_newV (ci := 5) (fs := [.null, .null, .int (nI (0)), .int (nI (0)), .int (nI (0)), .null, .null, .null]) rfl w_28 w_29 w_1 (by decide +kernel) (Nat.le_of_ble_eq_true rfl) (Nat.le_of_ble_eq_true rfl) dL_law_0 (fun h_1 f_1 o_1 => ?_)
  refine aw_dup dL_law_3 rfl ?_
  refine aw_callIQ (As := []) (rest := [.ref (q)]) (c_X6_init G f_1) kX6_init w_30 rfl rfl (Nat.le_of_ble_eq_true rfl) dL_law_4 ⟨Nat.le_of_ble_eq_true rfl, Nat.le_of_ble_eq_true rfl⟩ ⟨Nat.le_of_ble_eq_true rfl, Nat.le_of_ble_eq_true rfl⟩ (fun v_1 h_2 n_1 q_1 z_1 => ?_)
  obtain ⟨rfl, rfl, hH, oH⟩ := q_1
  refine aw_astore_n (L' := [(1, .ref (q)), (0, .ref (b))]) dL_law_7 (by decide) rfl ?_
  refine aw_newV (ci := 8) (fs := [.int (nI (0)), .null, .null, .int (nI (0)), .long (0)]) rfl w_695 w_696 w_5 (by decide +kernel) (Nat.le_of_ble_eq_true rfl) (Nat.le_of_ble_eq_true rfl) dL_law_8 (fun h_3 f_2 o_2 => ?_)
  refine aw_nx (show q + 204 + 1 = q + 205 from rfl) ?_
  refine aw_dup dL_law_11 rfl ?_
  refine aw_callIQ (As := []) (rest := [.ref (q + 204)]) (c_X9_init G f_2) kX9_init w_697 rfl rfl (Nat.le_of_ble_eq_true rfl) dL_law_12 ⟨Nat.le_of_ble_eq_true rfl, Nat.le_of_ble_eq_true rfl⟩ ⟨Nat.le_of_ble_eq_true rfl, Nat.le_of_ble_eq_true rfl⟩ (fun v_2 h_4 n_2 q_2 z_2 => ?_)
  obtain ⟨rfl, rfl, e0, e1, e2, oM⟩ := q_2
  refine aw_nx (show q + 204 + 3 = q + 207 from rfl) ?_
  refine aw_astore_n (L' := [(2, .ref (q + 204)), (1, .ref (q)), (0, .ref (b))]) dL_law_15 (by decide) rfl ?_
  refine aw_ic dL_law_16 ic_1 ?_
  refine aw_newarrJV (by decide) w_1184 (Nat.le_of_ble_eq_true rfl) (Nat.le_of_ble_eq_true rfl) dL_law_17 (fun h_5 f_3 o_3 => ?_)
  refine aw_nx (show q + 207 + 1 = q + 208 from rfl) ?_
  refine aw_astore_n (L' := [(3, .ref (q + 207)), (2, .ref (q + 204)), (1, .ref (q)), (0, .ref (b))]) dL_law_19 (by decide) rfl ?_
  refine aw_ic dL_law_20 ic_1 ?_
  refine aw_newarrDV (by decide) w_1185 (Nat.le_of_ble_eq_true rfl) (Nat.le_of_ble_eq_true rfl) dL_law_21 (fun h_6 f_4 o_4 => ?_)
  have f_5 := (o_4 (q + 207) (by omega)).trans f_3
  refine aw_nx (show q + 208 + 1 = q + 209 from rfl) ?_
  refine aw_astore (L' := [(4, .ref (q + 208)), (3, .ref (q + 207)), (2, .ref (q + 204)), (1, .ref (q)), (0, .ref (b))]) dL_law_23 (by decide) rfl ?_
  refine aw_ic dL_law_25 ic_0 ?_
  refine aw_istore (L' := [(5, .int (nI (0))), (4, .ref (q + 208)), (3, .ref (q + 207)), (2, .ref (q + 204)), (1, .ref (q)), (0, .ref (b))]) dL_law_26 (by decide) rfl ?_
  have hN : MAt G _ h_6 (q + 209) (q + 204) ([], [], 0) (nI 0) := MAt.new (by omega) ⟨by omega, by omega⟩ ((o_4 _ (by omega)).trans ((o_3 _ (by omega)).trans e0)) ((o_4 _ (by omega)).trans ((o_3 _ (by omega)).trans e1)) ((o_4 _ (by omega)).trans ((o_3 _ (by omega)).trans e2))
  have hI0 : LInv G (fun b => if b = q + 204 then 22 else if b = q + 204 + 1 then 20 else if b = q + 204 + 2 then 21 else 0) h_6 (q + 209) q 0 ([], [], 0) (nI 0) := ⟨hN, hH.keep (fun a g1 g2 => (o_4 a (by omega)).trans ((o_3 a (by omega)).trans ((oM a (by omega)).trans (o_2 a (by omega))))), ⟨Nat.zero_le _, Nat.zero_le _, Nat.le_refl _, fun i hi => absurd hi (Nat.not_lt_zero _), fun i hi => absurd hi (Nat.not_lt_zero _)⟩, fun b hb => by show (if b = q + 204 then 22 else if b = q + 204 + 1 then 20 else if b = q + 204 + 2 then 21 else 0) = 0; rw [if_neg (by omega), if_neg (by omega), if_neg (by omega)], ⟨by show (if q + 207 = q + 204 then 22 else if q + 207 = q + 204 + 1 then 20 else if q + 207 = q + 204 + 2 then 21 else 0) = 0; rw [if_neg (by omega), if_neg (by omega), if_neg (by omega)], by show (if q + 208 = q + 204 then 22 else if q + 208 = q + 204 + 1 then 20 else if q + 208 = q + 204 + 2 then 21 else 0) = 0; rw [if_neg (by omega), if_neg (by omega), if_neg (by omega)]⟩, ⟨_, f_5⟩, ⟨_, f_4⟩, Nat.le_refl _⟩
  refine aw_widen (cells' := 209 + 893 * 0) (slots' := 3086 + 10108 * 0) (Nat.le_of_ble_eq_true rfl) (Nat.le_of_ble_eq_true rfl) ?_
  have K : ∀ (d : Nat) (i c nx1 : Nat) (own1 : Nat → Nat) (h1 : aH) (σ1 : aSg) (th1 : Int32), L + 5 - i < d → (i = 5 * c ∧ c ≤ 512) → (LInv G own1 h1 nx1 q c σ1 th1) → aw G mL_law [] room_1 (lawQ G b L xs) (209 + 893 * c) (3086 + 10108 * c) h1 nx1 28 [(0, .ref (b)), (1, .ref (q)), (2, .ref (q + 204)), (3, .ref (q + 207)), (4, .ref (q + 208)), (5, .int (nI (i)))] [] := by
    intro d
    induction d with
    | zero => intro i c nx1 own1 h1 σ1 th1 hMd; exact absurd hMd (Nat.not_lt_zero _)
    | succ d ih =>
      intro i c nx1 own1 h1 σ1 th1 hMd hi I
      refine aw_iload dL_law_28 rfl ?_
      refine aw_aload_n dL_law_30 rfl ?_
      refine aw_slen dL_law_31 ?_
      refine aw_ic dL_law_32 ic_5 ?_
      refine aw_isub dL_law_33 ?_
      refine aw_icmp_gt (tgt := 1656) dL_law_34 (by decide) (fun c1 => ?_) (fun c1 => ?_)
      · skip
        refine aw_ic dL_law_1656 ic_1 ?_
        exact aw_lawend dL_law_1657 (by omega) (by omega)
      · skip
        have hle : i + 5 ≤ L := by rcases Nat.lt_or_ge L (i + 5) with z | z; exact absurd ((law_cmp (by omega) hL).mpr z) c1; exact z
        refine aw_aload_n dL_law_37 rfl ?_
        refine aw_iload dL_law_38 rfl ?_
        refine aw_sld (by omega) hL dL_law_40 ?_
        refine aw_bp (v := 31) dL_law_41 (by decide) ?_
        refine aw_iand dL_law_43 ?_
        obtain ⟨u, hu, hxu⟩ := and31 (xs i)
        refine aw_top (show ((xs i) &&& (nI (31))) = (nI (u)) from hxu) ?_
        have K2 : ∀ (own2 : Nat → Nat) (h2 : aH) (nx2 : Nat) (σ2 : aSg) (th2 : Int32), LInv G own2 h2 nx2 q (c + 1) σ2 th2 → aw G mL_law [] room_1 (lawQ G b L xs) (209 + 893 * c + 893) (3086 + 10108 * c + 10108) h2 nx2 1650 [(0, .ref (b)), (1, .ref (q)), (2, .ref (q + 204)), (3, .ref (q + 207)), (4, .ref (q + 208)), (5, .int (nI (i)))] [] := by
          intro own2 h2 nx2 σ2 th2 I2
          refine aw_iincN (k := 5) (L' := [(5, .int (nI (i + 5))), (0, .ref (b)), (1, .ref (q)), (2, .ref (q + 204)), (3, .ref (q + 207)), (4, .ref (q + 208))]) dL_law_1650 (by decide) rfl (by decide) rfl ?_
          refine aw_goto (tgt := 28) dL_law_1653 (by decide) ?_
          refine aw_widen (cells' := 209 + 893 * (c + 1)) (slots' := 3086 + 10108 * (c + 1)) (by omega) (by omega) ?_
          refine aw_sub (L' := [(0, .ref (b)), (1, .ref (q)), (2, .ref (q + 204)), (3, .ref (q + 207)), (4, .ref (q + 208)), (5, .int (nI (i + 5)))]) [1, 2, 3, 4, 5, 0] rfl ?_
          exact ih (i + 5) (c + 1) nx2 own2 h2 σ2 th2 (by omega) ⟨by omega, by omega⟩ I2
        refine aw_sub (L' := [(0, .ref (b)), (1, .ref (q)), (2, .ref (q + 204)), (3, .ref (q + 207)), (4, .ref (q + 208)), (5, .int (nI (i)))]) [0, 1, 2, 3, 4, 5] rfl ?_
        rcases (show u = 0 ∨ u = 1 ∨ u = 2 ∨ u = 3 ∨ u = 4 ∨ u = 5 ∨ u = 6 ∨ u = 7 ∨ u = 8 ∨ u = 9 ∨ u = 10 ∨ u = 11 ∨ u = 12 ∨ u = 13 ∨ u = 14 ∨ u = 15 ∨ u = 16 ∨ u = 17 ∨ u = 18 ∨ u = 19 ∨ u = 20 ∨ u = 21 ∨ 22 ≤ u by omega) with rfl | rfl | rfl | rfl | rfl | rfl | rfl | rfl | rfl | rfl | rfl | rfl | rfl | rfl | rfl | rfl | rfl | rfl | rfl | rfl | rfl | rfl | hu2
        · skip
          refine aw_tableIn (off := 104) (tgt := 148) dL_law_44 (by decide) (by decide) (by decide) (by decide) ?_
          exact law_deck G I (by omega) hle hL hG (by omega) (by omega) K2
        · skip
          refine aw_tableIn (off := 160) (tgt := 204) dL_law_44 (by decide) (by decide) (by decide) (by decide) ?_
          exact law_shuffle G I (by omega) hle hL hG (by omega) (by omega) K2
        · skip
          refine aw_tableIn (off := 252) (tgt := 296) dL_law_44 (by decide) (by decide) (by decide) (by decide) ?_
          exact law_undo G I (by omega) hle hL hG (by omega) (by omega) K2
        · skip
          refine aw_tableIn (off := 308) (tgt := 352) dL_law_44 (by decide) (by decide) (by decide) (by decide) ?_
          exact law_turn G I (by omega) hle hL hG (by omega) (by omega) K2
        · skip
          refine aw_tableIn (off := 383) (tgt := 427) dL_law_44 (by decide) (by decide) (by decide) (by decide) ?_
          exact law_sequence G I (by omega) hle hL hG (by omega) (by omega) K2
        · skip
          refine aw_tableIn (off := 427) (tgt := 471) dL_law_44 (by decide) (by decide) (by decide) (by decide) ?_
          exact law_step G I (by omega) hle hL hG (by omega) (by omega) K2
        · skip
          refine aw_tableIn (off := 507) (tgt := 551) dL_law_44 (by decide) (by decide) (by decide) (by decide) ?_
          exact law_perform G I (by omega) hle hL hG (by omega) (by omega) K2
        · skip
          refine aw_tableIn (off := 587) (tgt := 631) dL_law_44 (by decide) (by decide) (by decide) (by decide) ?_
          exact law_card G I (by omega) hle hL hG (by omega) (by omega) K2
        · skip
          refine aw_tableIn (off := 655) (tgt := 699) dL_law_44 (by decide) (by decide) (by decide) (by decide) ?_
          exact law_find G I (by omega) hle hL hG (by omega) (by omega) K2
        · skip
          refine aw_tableIn (off := 751) (tgt := 795) dL_law_44 (by decide) (by decide) (by decide) (by decide) ?_
          exact law_ofDeck G I (by omega) hle hL hG (by omega) (by omega) K2
        · skip
          refine aw_tableIn (off := 819) (tgt := 863) dL_law_44 (by decide) (by decide) (by decide) (by decide) ?_
          exact law_keeps G I (by omega) hle hL hG (by omega) (by omega) K2
        · skip
          refine aw_tableIn (off := 894) (tgt := 938) dL_law_44 (by decide) (by decide) (by decide) (by decide) ?_
          exact law_chance G I (by omega) hle hL hG (by omega) (by omega) K2
        · skip
          refine aw_tableIn (off := 983) (tgt := 1027) dL_law_44 (by decide) (by decide) (by decide) (by decide) ?_
          exact law_far G I (by omega) hle hL hG (by omega) (by omega) K2
        · skip
          refine aw_tableIn (off := 1060) (tgt := 1104) dL_law_44 (by decide) (by decide) (by decide) (by decide) ?_
          exact law_alike G I (by omega) hle hL hG (by omega) (by omega) K2
        · skip
          refine aw_tableIn (off := 1128) (tgt := 1172) dL_law_44 (by decide) (by decide) (by decide) (by decide) ?_
          exact law_ofSequence G I (by omega) hle hL hG (by omega) (by omega) K2
        · skip
          refine aw_tableIn (off := 1196) (tgt := 1240) dL_law_44 (by decide) (by decide) (by decide) (by decide) ?_
          exact law_period G I (by omega) hle hL hG (by omega) (by omega) K2
        · skip
          refine aw_tableIn (off := 1264) (tgt := 1308) dL_law_44 (by decide) (by decide) (by decide) (by decide) ?_
          exact law_many G I (by omega) hle hL hG (by omega) (by omega) K2
        · skip
          refine aw_tableIn (off := 1320) (tgt := 1364) dL_law_44 (by decide) (by decide) (by decide) (by decide) ?_
          exact law_toTop G I (by omega) hle hL hG (by omega) (by omega) K2
        · skip
          refine aw_tableIn (off := 1388) (tgt := 1432) dL_law_44 (by decide) (by decide) (by decide) (by decide) ?_
          exact law_goes G I (by omega) hle hL hG (by omega) (by omega) K2
        · skip
          refine aw_tableIn (off := 1480) (tgt := 1524) dL_law_44 (by decide) (by decide) (by decide) (by decide) ?_
          exact law_best G I (by omega) hle hL hG (by omega) (by omega) K2
        · skip
          refine aw_tableIn (off := 1536) (tgt := 1580) dL_law_44 (by decide) (by decide) (by decide) (by decide) ?_
          exact law_riffle G I (by omega) hle hL hG (by omega) (by omega) K2
        · skip
          refine aw_tableIn (off := 1592) (tgt := 1636) dL_law_44 (by decide) (by decide) (by decide) (by decide) ?_
          exact law_digest G I (by omega) hle hL hG (by omega) (by omega) K2
        · skip
          refine aw_tableOut (tgt := 1650) dL_law_44 (Or.inr (by rw [nI_toInt (by omega)]; omega)) (by decide) ?_
          refine aw_widen (cells' := 209 + 893 * c + 893) (slots' := 3086 + 10108 * c + 10108) (by omega) (by omega) ?_
          exact K2 _ _ _ _ _ I.mono
  refine aw_sub (L' := [(0, .ref (b)), (1, .ref (q)), (2, .ref (q + 204)), (3, .ref (q + 207)), (4, .ref (q + 208)), (5, .int (nI (0)))]) [5, 4, 3, 2, 1, 0] rfl ?_
  exact K (L + 6) 0 0 (q + 209) _ h_6 ([], [], 0) (nI 0) (by omega) ⟨rfl, Nat.zero_le _⟩ hI0
