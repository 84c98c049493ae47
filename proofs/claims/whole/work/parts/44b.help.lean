theorem o_deck (σ : aSg) (x : Int32) : (∃ v : Int32, (sDeck σ x).1 = .inl (some (.int v))) ∨ (sDeck σ x).1 = .inr xIAE ∨ (sDeck σ x).1 = .inr xISE := by
  unfold sDeck
  repeat' split
  all_goals first | exact Or.inl ⟨_, rfl⟩ | exact Or.inr rfl | exact Or.inr (Or.inl rfl) | exact Or.inr (Or.inr rfl) | exact Or.inr (Or.inr (Or.inl rfl)) | exact Or.inr (Or.inr (Or.inr rfl))
theorem o_shuffle (σ : aSg) (x k m t : Int32) : (∃ v : Int32, (sShuffle σ x k m t).1 = .inl (some (.int v))) ∨ (sShuffle σ x k m t).1 = .inr xIOB ∨ (sShuffle σ x k m t).1 = .inr xIAE := by
  unfold sShuffle
  repeat' split
  all_goals first | exact Or.inl ⟨_, rfl⟩ | exact Or.inr rfl | exact Or.inr (Or.inl rfl) | exact Or.inr (Or.inr rfl) | exact Or.inr (Or.inr (Or.inl rfl)) | exact Or.inr (Or.inr (Or.inr rfl))
theorem o_undo (σ : aSg) (x : Int32) : (∃ v : Int32, (sUndo σ x).1 = .inl (some (.int v))) ∨ (sUndo σ x).1 = .inr xIOB := by
  unfold sUndo
  repeat' split
  all_goals first | exact Or.inl ⟨_, rfl⟩ | exact Or.inr rfl | exact Or.inr (Or.inl rfl) | exact Or.inr (Or.inr rfl) | exact Or.inr (Or.inr (Or.inl rfl)) | exact Or.inr (Or.inr (Or.inr rfl))
theorem o_turn (σ : aSg) (x p : Int32) : (∃ v : Bool, (sTurn σ x p).1 = .inl (some (.int (bI v)))) ∨ (sTurn σ x p).1 = .inr xIOB := by
  unfold sTurn
  repeat' split
  all_goals first | exact Or.inl ⟨_, rfl⟩ | exact Or.inr rfl | exact Or.inr (Or.inl rfl) | exact Or.inr (Or.inr rfl) | exact Or.inr (Or.inr (Or.inl rfl)) | exact Or.inr (Or.inr (Or.inr rfl))
theorem o_sequence (σ : aSg)  : (∃ v : Int32, (sSequence σ).1 = .inl (some (.int v))) ∨ (sSequence σ).1 = .inr xISE := by
  unfold sSequence
  repeat' split
  all_goals first | exact Or.inl ⟨_, rfl⟩ | exact Or.inr rfl | exact Or.inr (Or.inl rfl) | exact Or.inr (Or.inr rfl) | exact Or.inr (Or.inr (Or.inl rfl)) | exact Or.inr (Or.inr (Or.inr rfl))
theorem o_step (σ : aSg) (x k m : Int32) : (∃ v : Int32, (sStep σ x k m).1 = .inl (some (.int v))) ∨ (sStep σ x k m).1 = .inr xIOB ∨ (sStep σ x k m).1 = .inr xIAE ∨ (sStep σ x k m).1 = .inr xISE := by
  unfold sStep
  repeat' split
  all_goals first | exact Or.inl ⟨_, rfl⟩ | exact Or.inr rfl | exact Or.inr (Or.inl rfl) | exact Or.inr (Or.inr rfl) | exact Or.inr (Or.inr (Or.inl rfl)) | exact Or.inr (Or.inr (Or.inr rfl))
theorem o_perform (σ : aSg) (x y t : Int32) : (∃ v : Int32, (sPerform σ x y t).1 = .inl (some (.int v))) ∨ (sPerform σ x y t).1 = .inr xIOB ∨ (sPerform σ x y t).1 = .inr xIAE ∨ (sPerform σ x y t).1 = .inr xISE := by
  unfold sPerform
  repeat' split
  all_goals first | exact Or.inl ⟨_, rfl⟩ | exact Or.inr rfl | exact Or.inr (Or.inl rfl) | exact Or.inr (Or.inr rfl) | exact Or.inr (Or.inr (Or.inl rfl)) | exact Or.inr (Or.inr (Or.inr rfl))
theorem o_card (σ : aSg) (x p : Int32) : (∃ v : Int32, (sCard σ x p).1 = .inl (some (.int v))) ∨ (sCard σ x p).1 = .inr xIOB := by
  unfold sCard
  repeat' split
  all_goals first | exact Or.inl ⟨_, rfl⟩ | exact Or.inr rfl | exact Or.inr (Or.inl rfl) | exact Or.inr (Or.inr rfl) | exact Or.inr (Or.inr (Or.inl rfl)) | exact Or.inr (Or.inr (Or.inr rfl))
theorem o_find (σ : aSg) (x p : Int32) (z : Bool) : (∃ v : Int32, (sFind σ x p z).1 = .inl (some (.int v))) ∨ (sFind σ x p z).1 = .inr xIOB := by
  unfold sFind
  repeat' split
  all_goals first | exact Or.inl ⟨_, rfl⟩ | exact Or.inr rfl | exact Or.inr (Or.inl rfl) | exact Or.inr (Or.inr rfl) | exact Or.inr (Or.inr (Or.inl rfl)) | exact Or.inr (Or.inr (Or.inr rfl))
theorem o_ofDeck (σ : aSg) (x w : Int32) : (∃ v : Int32, (sOfDeck σ x w).1 = .inl (some (.int v))) ∨ (sOfDeck σ x w).1 = .inr xIOB ∨ (sOfDeck σ x w).1 = .inr xIAE := by
  unfold sOfDeck
  repeat' split
  all_goals first | exact Or.inl ⟨_, rfl⟩ | exact Or.inr rfl | exact Or.inr (Or.inl rfl) | exact Or.inr (Or.inr rfl) | exact Or.inr (Or.inr (Or.inl rfl)) | exact Or.inr (Or.inr (Or.inr rfl))
theorem o_keeps (σ : aSg) (x w : Int32) : (∃ v : Bool, (sKeeps σ x w).1 = .inl (some (.int (bI v)))) ∨ (sKeeps σ x w).1 = .inr xIOB ∨ (sKeeps σ x w).1 = .inr xIAE := by
  unfold sKeeps
  repeat' split
  all_goals first | exact Or.inl ⟨_, rfl⟩ | exact Or.inr rfl | exact Or.inr (Or.inl rfl) | exact Or.inr (Or.inr rfl) | exact Or.inr (Or.inr (Or.inl rfl)) | exact Or.inr (Or.inr (Or.inr rfl))
theorem o_chance (σ : aSg) (x k : Int32) : (∃ v : UInt64, (sChance σ x k).1 = .inl (some (.double v))) ∨ (sChance σ x k).1 = .inr xIOB ∨ (sChance σ x k).1 = .inr xIAE := by
  unfold sChance
  repeat' split
  all_goals first | exact Or.inl ⟨_, rfl⟩ | exact Or.inr rfl | exact Or.inr (Or.inl rfl) | exact Or.inr (Or.inr rfl) | exact Or.inr (Or.inr (Or.inl rfl)) | exact Or.inr (Or.inr (Or.inr rfl))
theorem o_far (σ : aSg) (x : Int32) : (∃ v : UInt64, (sFar σ x).1 = .inl (some (.double v))) ∨ (sFar σ x).1 = .inr xIOB := by
  unfold sFar
  repeat' split
  all_goals first | exact Or.inl ⟨_, rfl⟩ | exact Or.inr rfl | exact Or.inr (Or.inl rfl) | exact Or.inr (Or.inr rfl) | exact Or.inr (Or.inr (Or.inl rfl)) | exact Or.inr (Or.inr (Or.inr rfl))
theorem o_alike (σ : aSg) (x y : Int32) : (∃ v : Int32, (sAlike σ x y).1 = .inl (some (.int v))) ∨ (sAlike σ x y).1 = .inr xIOB := by
  unfold sAlike
  repeat' split
  all_goals first | exact Or.inl ⟨_, rfl⟩ | exact Or.inr rfl | exact Or.inr (Or.inl rfl) | exact Or.inr (Or.inr rfl) | exact Or.inr (Or.inr (Or.inl rfl)) | exact Or.inr (Or.inr (Or.inr rfl))
theorem o_ofSequence (σ : aSg) (x w : Int32) : (∃ v : Int32, (sOfSeq σ x w).1 = .inl (some (.int v))) ∨ (sOfSeq σ x w).1 = .inr xIOB ∨ (sOfSeq σ x w).1 = .inr xIAE := by
  unfold sOfSeq
  repeat' split
  all_goals first | exact Or.inl ⟨_, rfl⟩ | exact Or.inr rfl | exact Or.inr (Or.inl rfl) | exact Or.inr (Or.inr rfl) | exact Or.inr (Or.inr (Or.inl rfl)) | exact Or.inr (Or.inr (Or.inr rfl))
theorem o_period (σ : aSg) (x y : Int32) : (∃ v : Int32, (sPeriod σ x y).1 = .inl (some (.int v))) ∨ (sPeriod σ x y).1 = .inr xIOB ∨ (sPeriod σ x y).1 = .inr xIAE := by
  unfold sPeriod
  repeat' split
  all_goals first | exact Or.inl ⟨_, rfl⟩ | exact Or.inr rfl | exact Or.inr (Or.inl rfl) | exact Or.inr (Or.inr rfl) | exact Or.inr (Or.inr (Or.inl rfl)) | exact Or.inr (Or.inr (Or.inr rfl))
theorem o_many (σ : aSg) (w : Int32) : (∃ v : Int32, (sMany σ w).1 = .inl (some (.int v))) ∨ (sMany σ w).1 = .inr xIAE := by
  unfold sMany
  repeat' split
  all_goals first | exact Or.inl ⟨_, rfl⟩ | exact Or.inr rfl | exact Or.inr (Or.inl rfl) | exact Or.inr (Or.inr rfl) | exact Or.inr (Or.inr (Or.inl rfl)) | exact Or.inr (Or.inr (Or.inr rfl))
theorem o_toTop (σ : aSg) (x p : Int32) : (∃ v : Int32, (sToTop σ x p).1 = .inl (some (.int v))) ∨ (sToTop σ x p).1 = .inr xIOB := by
  unfold sToTop
  repeat' split
  all_goals first | exact Or.inl ⟨_, rfl⟩ | exact Or.inr rfl | exact Or.inr (Or.inl rfl) | exact Or.inr (Or.inr rfl) | exact Or.inr (Or.inr (Or.inl rfl)) | exact Or.inr (Or.inr (Or.inr rfl))
theorem o_goes (σ : aSg) (x p k m : Int32) : (∃ v : Int32, (sGoes σ x p k m).1 = .inl (some (.int v))) ∨ (sGoes σ x p k m).1 = .inr xIOB ∨ (sGoes σ x p k m).1 = .inr xIAE := by
  unfold sGoes
  repeat' split
  all_goals first | exact Or.inl ⟨_, rfl⟩ | exact Or.inr rfl | exact Or.inr (Or.inl rfl) | exact Or.inr (Or.inr rfl) | exact Or.inr (Or.inr (Or.inl rfl)) | exact Or.inr (Or.inr (Or.inr rfl))
theorem o_best (σ : aSg) (x : Int32) : (∃ v : Int32, (sBest σ x).1 = .inl (some (.int v))) ∨ (sBest σ x).1 = .inr xIOB := by
  unfold sBest
  repeat' split
  all_goals first | exact Or.inl ⟨_, rfl⟩ | exact Or.inr rfl | exact Or.inr (Or.inl rfl) | exact Or.inr (Or.inr rfl) | exact Or.inr (Or.inr (Or.inl rfl)) | exact Or.inr (Or.inr (Or.inr rfl))
theorem o_riffle (σ : aSg) (x : Int32) : (∃ v : Int32, (sRiffle σ x).1 = .inl (some (.int v))) ∨ (sRiffle σ x).1 = .inr xIOB := by
  unfold sRiffle
  repeat' split
  all_goals first | exact Or.inl ⟨_, rfl⟩ | exact Or.inr rfl | exact Or.inr (Or.inl rfl) | exact Or.inr (Or.inr rfl) | exact Or.inr (Or.inr (Or.inl rfl)) | exact Or.inr (Or.inr (Or.inr rfl))
theorem kL_deck : aOkH mL_deck [(0, 9, 12, 13), (0, 9, 15, 15)] 3 := ⟨w_507, w_0, by decide +kernel, w_506⟩
set_option maxHeartbeats 4000000 in
set_option maxRecDepth 20000 in
/-- deck of the law -/
theorem l_deck (G : aG) {h : aH} {nx q a c : Nat} {σ : aSg} (hH : HallAt h q σ) (hσ : sgOk c σ) (hc9 : c ≤ 512) (ha : a < q ∨ q + 204 ≤ a) {f : Nat → Int64} (hf : h a = some (.inl (2, 1, .inr (.inl f)))) (x : Int32) : aMetH G mL_deck [(0, 9, 12, 13), (0, 9, 15, 15)] 13 1 6 [.ref (q), .int (x), .ref (a)] h nx (lPo h q a nx cdB (sDeck σ x)) := by
  refine aMetH_of rfl (Nat.le_of_ble_eq_true rfl) ?_
  show aw G mL_deck [(0, 9, 12, 13), (0, 9, 15, 15)] (aRoom 13 1 6) (aEnd G (lPo h q a nx cdB (sDeck σ x)) 1 6) 0 0 h nx 0 [(0, .ref (q)), (1, .int (x)), (2, .ref (a))] []
  refine aw_aload_n dL_deck_0 rfl ?_
  refine aw_ic dL_deck_1 ic_0 ?_
  refine aw_aload_n dL_deck_2 rfl ?_
  refine aw_iload_n dL_deck_3 rfl ?_
  refine aw_callV (As := [.int (x)]) (rest := [.int (nI (0)), .ref (a)]) (p_X6_deck G hH hσ hc9 x) kX6_deck w_510 hH.1 rfl rfl rfl rfl (Nat.le_of_ble_eq_true rfl) dL_deck_4 ⟨Nat.le_of_ble_eq_true rfl, Nat.le_of_ble_eq_true rfl⟩ ⟨Nat.le_of_ble_eq_true rfl, Nat.le_of_ble_eq_true rfl⟩ (fun v h1 n1 hp hn => ?_) (fun E h1 n1 hp hn => ?_)
  · obtain ⟨-, ho, hr, hH1⟩ := hp
    rcases o_deck σ x with ⟨x9, hx9⟩ | hx9 | hx9
    · rw [hx9] at hr
      cases hr
      have hf1 := (ho a ha).trans hf
      refine aw_i2l dL_deck_7 ?_
      refine aw_lastoreV hf1 (by omega) (by omega) dL_deck_8 (fun h_1 f_1 o_1 => ?_)
      refine aw_goto (tgt := 18) dL_deck_9 (by decide) ?_
      refine aw_ic dL_deck_18 ic_0 ?_
      exact aw_ireturn dL_deck_19 rfl ⟨by rw [hx9]; rfl, by omega, hH1.keep (fun b h9 h8 => o_1 b (by omega)), fun b h9 h8 => (o_1 b h8).trans (ho b h9), _, f_1, fun v hv => by rw [hx9] at hv; cases hv; simp [vp_updL]⟩ (by omega) (by omega)
    · rw [hx9] at hr; cases hr
    · rw [hx9] at hr; cases hr
  · obtain ⟨-, ho, hr, hH1⟩ := hp
    have hf1 := (ho a ha).trans hf
    rcases o_deck σ x with ⟨x9, hx9⟩ | hx9 | hx9
    · rw [hx9] at hr; cases hr
    · rw [hx9] at hr; cases hr
      refine awx_catch [] ⟨0, 9, 12, 13⟩ [⟨0, 9, 15, 15⟩] rfl (fun _ h => absurd h List.not_mem_nil) (by decide) (by decide) w_508 w_136 (fun q9 => ?_)
      refine aw_astore_n (L' := [(3, .ref (q9)), (0, .ref (q)), (1, .int (x)), (2, .ref (a))]) dL_deck_12 (by decide) rfl ?_
      refine aw_ic dL_deck_13 ic_1 ?_
      exact aw_ireturn dL_deck_14 rfl ⟨by rw [hx9]; rfl, by omega, hH1, fun b h9 _ => ho b h9, _, hf1, fun v hv => by rw [hx9] at hv; cases hv⟩ (by omega) (by omega)
    · rw [hx9] at hr; cases hr
      refine awx_catch [⟨0, 9, 12, 13⟩] ⟨0, 9, 15, 15⟩ [] rfl (List.forall_mem_cons.mpr ⟨⟨by decide, xIAE, w_508, by decide +kernel⟩, (fun _ h => absurd h List.not_mem_nil)⟩) (by decide) (by decide) w_509 w_516 (fun q9 => ?_)
      refine aw_astore_n (L' := [(3, .ref (q9)), (0, .ref (q)), (1, .int (x)), (2, .ref (a))]) dL_deck_15 (by decide) rfl ?_
      refine aw_ic dL_deck_16 ic_2 ?_
      exact aw_ireturn dL_deck_17 rfl ⟨by rw [hx9]; rfl, by omega, hH1, fun b h9 _ => ho b h9, _, hf1, fun v hv => by rw [hx9] at hv; cases hv⟩ (by omega) (by omega)
theorem kL_shuffle : aOkH mL_shuffle [(0, 14, 17, 21), (0, 14, 21, 13)] 6 := ⟨w_537, w_0, by decide +kernel, w_536⟩
set_option maxHeartbeats 4000000 in
set_option maxRecDepth 20000 in
/-- shuffle of the law -/
theorem l_shuffle (G : aG) {h : aH} {nx q a c : Nat} {σ : aSg} (hH : HallAt h q σ) (hσ : sgOk c σ) (hc9 : c ≤ 512) (ha : a < q ∨ q + 204 ≤ a) {f : Nat → Int64} (hf : h a = some (.inl (2, 1, .inr (.inl f)))) (x k m t : Int32) : aMetH G mL_shuffle [(0, 14, 17, 21), (0, 14, 21, 13)] 13 1 6 [.ref (q), .int (x), .int (k), .int (m), .int (t), .ref (a)] h nx (lPo h q a nx cdA (sShuffle σ x k m t)) := by
  refine aMetH_of rfl (Nat.le_of_ble_eq_true rfl) ?_
  show aw G mL_shuffle [(0, 14, 17, 21), (0, 14, 21, 13)] (aRoom 13 1 6) (aEnd G (lPo h q a nx cdA (sShuffle σ x k m t)) 1 6) 0 0 h nx 0 [(0, .ref (q)), (1, .int (x)), (2, .int (k)), (3, .int (m)), (4, .int (t)), (5, .ref (a))] []
  refine aw_aload dL_shuffle_0 rfl ?_
  refine aw_ic dL_shuffle_2 ic_0 ?_
  refine aw_aload_n dL_shuffle_3 rfl ?_
  refine aw_iload_n dL_shuffle_4 rfl ?_
  refine aw_iload_n dL_shuffle_5 rfl ?_
  refine aw_iload_n dL_shuffle_6 rfl ?_
  refine aw_iload dL_shuffle_7 rfl ?_
  refine aw_callV (As := [.int (x), .int (k), .int (m), .int (t)]) (rest := [.int (nI (0)), .ref (a)]) (p_X6_shuffle G hH hσ hc9 x k m t) kX6_shuffle w_539 hH.1 rfl rfl rfl rfl (Nat.le_of_ble_eq_true rfl) dL_shuffle_9 ⟨Nat.le_of_ble_eq_true rfl, Nat.le_of_ble_eq_true rfl⟩ ⟨Nat.le_of_ble_eq_true rfl, Nat.le_of_ble_eq_true rfl⟩ (fun v h1 n1 hp hn => ?_) (fun E h1 n1 hp hn => ?_)
  · obtain ⟨-, ho, hr, hH1⟩ := hp
    rcases o_shuffle σ x k m t with ⟨x9, hx9⟩ | hx9 | hx9
    · rw [hx9] at hr
      cases hr
      have hf1 := (ho a ha).trans hf
      refine aw_i2l dL_shuffle_12 ?_
      refine aw_lastoreV hf1 (by omega) (by omega) dL_shuffle_13 (fun h_1 f_1 o_1 => ?_)
      refine aw_goto (tgt := 25) dL_shuffle_14 (by decide) ?_
      refine aw_ic dL_shuffle_25 ic_0 ?_
      exact aw_ireturn dL_shuffle_26 rfl ⟨by rw [hx9]; rfl, by omega, hH1.keep (fun b h9 h8 => o_1 b (by omega)), fun b h9 h8 => (o_1 b h8).trans (ho b h9), _, f_1, fun v hv => by rw [hx9] at hv; cases hv; simp [vp_updL]⟩ (by omega) (by omega)
    · rw [hx9] at hr; cases hr
    · rw [hx9] at hr; cases hr
  · obtain ⟨-, ho, hr, hH1⟩ := hp
    have hf1 := (ho a ha).trans hf
    rcases o_shuffle σ x k m t with ⟨x9, hx9⟩ | hx9 | hx9
    · rw [hx9] at hr; cases hr
    · rw [hx9] at hr; cases hr
      refine awx_catch [] ⟨0, 14, 17, 21⟩ [⟨0, 14, 21, 13⟩] rfl (fun _ h => absurd h List.not_mem_nil) (by decide) (by decide) w_538 w_256 (fun q9 => ?_)
      refine aw_astore (L' := [(6, .ref (q9)), (0, .ref (q)), (1, .int (x)), (2, .int (k)), (3, .int (m)), (4, .int (t)), (5, .ref (a))]) dL_shuffle_17 (by decide) rfl ?_
      refine aw_ic dL_shuffle_19 ic_1 ?_
      exact aw_ireturn dL_shuffle_20 rfl ⟨by rw [hx9]; rfl, by omega, hH1, fun b h9 _ => ho b h9, _, hf1, fun v hv => by rw [hx9] at hv; cases hv⟩ (by omega) (by omega)
    · rw [hx9] at hr; cases hr
      refine awx_catch [⟨0, 14, 17, 21⟩] ⟨0, 14, 21, 13⟩ [] rfl (List.forall_mem_cons.mpr ⟨⟨by decide, xIOB, w_538, by decide +kernel⟩, (fun _ h => absurd h List.not_mem_nil)⟩) (by decide) (by decide) w_508 w_136 (fun q9 => ?_)
      refine aw_astore (L' := [(6, .ref (q9)), (0, .ref (q)), (1, .int (x)), (2, .int (k)), (3, .int (m)), (4, .int (t)), (5, .ref (a))]) dL_shuffle_21 (by decide) rfl ?_
      refine aw_ic dL_shuffle_23 ic_2 ?_
      exact aw_ireturn dL_shuffle_24 rfl ⟨by rw [hx9]; rfl, by omega, hH1, fun b h9 _ => ho b h9, _, hf1, fun v hv => by rw [hx9] at hv; cases hv⟩ (by omega) (by omega)
theorem kL_undo : aOkH mL_undo [(0, 9, 12, 21)] 3 := ⟨w_573, w_0, by decide +kernel, w_572⟩
set_option maxHeartbeats 4000000 in
set_option maxRecDepth 20000 in
/-- undo of the law -/
theorem l_undo (G : aG) {h : aH} {nx q a c : Nat} {σ : aSg} (hH : HallAt h q σ) (hσ : sgOk c σ) (hc9 : c ≤ 512) (ha : a < q ∨ q + 204 ≤ a) {f : Nat → Int64} (hf : h a = some (.inl (2, 1, .inr (.inl f)))) (x : Int32) : aMetH G mL_undo [(0, 9, 12, 21)] 13 1 6 [.ref (q), .int (x), .ref (a)] h nx (lPo h q a nx cdA (sUndo σ x)) := by
  refine aMetH_of rfl (Nat.le_of_ble_eq_true rfl) ?_
  show aw G mL_undo [(0, 9, 12, 21)] (aRoom 13 1 6) (aEnd G (lPo h q a nx cdA (sUndo σ x)) 1 6) 0 0 h nx 0 [(0, .ref (q)), (1, .int (x)), (2, .ref (a))] []
  refine aw_aload_n dL_undo_0 rfl ?_
  refine aw_ic dL_undo_1 ic_0 ?_
  refine aw_aload_n dL_undo_2 rfl ?_
  refine aw_iload_n dL_undo_3 rfl ?_
  refine aw_callV (As := [.int (x)]) (rest := [.int (nI (0)), .ref (a)]) (p_X6_undo G hH hσ hc9 x) kX6_undo w_574 hH.1 rfl rfl rfl rfl (Nat.le_of_ble_eq_true rfl) dL_undo_4 ⟨Nat.le_of_ble_eq_true rfl, Nat.le_of_ble_eq_true rfl⟩ ⟨Nat.le_of_ble_eq_true rfl, Nat.le_of_ble_eq_true rfl⟩ (fun v h1 n1 hp hn => ?_) (fun E h1 n1 hp hn => ?_)
  · obtain ⟨-, ho, hr, hH1⟩ := hp
    rcases o_undo σ x with ⟨x9, hx9⟩ | hx9
    · rw [hx9] at hr
      cases hr
      have hf1 := (ho a ha).trans hf
      refine aw_i2l dL_undo_7 ?_
      refine aw_lastoreV hf1 (by omega) (by omega) dL_undo_8 (fun h_1 f_1 o_1 => ?_)
      refine aw_goto (tgt := 15) dL_undo_9 (by decide) ?_
      refine aw_ic dL_undo_15 ic_0 ?_
      exact aw_ireturn dL_undo_16 rfl ⟨by rw [hx9]; rfl, by omega, hH1.keep (fun b h9 h8 => o_1 b (by omega)), fun b h9 h8 => (o_1 b h8).trans (ho b h9), _, f_1, fun v hv => by rw [hx9] at hv; cases hv; simp [vp_updL]⟩ (by omega) (by omega)
    · rw [hx9] at hr; cases hr
  · obtain ⟨-, ho, hr, hH1⟩ := hp
    have hf1 := (ho a ha).trans hf
    rcases o_undo σ x with ⟨x9, hx9⟩ | hx9
    · rw [hx9] at hr; cases hr
    · rw [hx9] at hr; cases hr
      refine awx_catch [] ⟨0, 9, 12, 21⟩ [] rfl (fun _ h => absurd h List.not_mem_nil) (by decide) (by decide) w_538 w_256 (fun q9 => ?_)
      refine aw_astore_n (L' := [(3, .ref (q9)), (0, .ref (q)), (1, .int (x)), (2, .ref (a))]) dL_undo_12 (by decide) rfl ?_
      refine aw_ic dL_undo_13 ic_1 ?_
      exact aw_ireturn dL_undo_14 rfl ⟨by rw [hx9]; rfl, by omega, hH1, fun b h9 _ => ho b h9, _, hf1, fun v hv => by rw [hx9] at hv; cases hv⟩ (by omega) (by omega)
theorem kL_turn : aOkH mL_turn [(0, 17, 20, 21)] 4 := ⟨w_588, w_0, by decide +kernel, w_587⟩
set_option maxHeartbeats 4000000 in
set_option maxRecDepth 20000 in
/-- turn of the law -/
theorem l_turn (G : aG) {h : aH} {nx q a c : Nat} {σ : aSg} (hH : HallAt h q σ) (hσ : sgOk c σ) (hc9 : c ≤ 512) (ha : a < q ∨ q + 204 ≤ a) {f : Nat → Int64} (hf : h a = some (.inl (2, 1, .inr (.inl f)))) (x p : Int32) : aMetH G mL_turn [(0, 17, 20, 21)] 13 1 6 [.ref (q), .int (x), .int (p), .ref (a)] h nx (lPo h q a nx cdA (sTurn σ x p)) := by
  refine aMetH_of rfl (Nat.le_of_ble_eq_true rfl) ?_
  show aw G mL_turn [(0, 17, 20, 21)] (aRoom 13 1 6) (aEnd G (lPo h q a nx cdA (sTurn σ x p)) 1 6) 0 0 h nx 0 [(0, .ref (q)), (1, .int (x)), (2, .int (p)), (3, .ref (a))] []
  refine aw_aload_n dL_turn_0 rfl ?_
  refine aw_ic dL_turn_1 ic_0 ?_
  refine aw_aload_n dL_turn_2 rfl ?_
  refine aw_iload_n dL_turn_3 rfl ?_
  refine aw_iload_n dL_turn_4 rfl ?_
  refine aw_callV (As := [.int (x), .int (p)]) (rest := [.int (nI (0)), .ref (a)]) (p_X6_turn G hH hσ hc9 x p) kX6_turn w_589 hH.1 rfl rfl rfl rfl (Nat.le_of_ble_eq_true rfl) dL_turn_5 ⟨Nat.le_of_ble_eq_true rfl, Nat.le_of_ble_eq_true rfl⟩ ⟨Nat.le_of_ble_eq_true rfl, Nat.le_of_ble_eq_true rfl⟩ (fun v h1 n1 hp hn => ?_) (fun E h1 n1 hp hn => ?_)
  · obtain ⟨-, ho, hr, hH1⟩ := hp
    rcases o_turn σ x p with ⟨x9, hx9⟩ | hx9
    · rw [hx9] at hr
      cases hr
      have hf1 := (ho a ha).trans hf
      refine aw_if_eqB (tgt := 15) dL_turn_8 (by decide) (fun cb => ?_) (fun cb => ?_)
      · skip
        refine aw_lconst (v := 0) dL_turn_15 (by decide) ?_
        refine aw_lastoreV hf1 (by omega) (by omega) dL_turn_16 (fun h_1 f_1 o_1 => ?_)
        refine aw_goto (tgt := 24) dL_turn_17 (by decide) ?_
        refine aw_ic dL_turn_24 ic_0 ?_
        exact aw_ireturn dL_turn_25 rfl ⟨by rw [hx9]; rfl, by omega, hH1.keep (fun b h9 h8 => o_1 b (by omega)), fun b h9 h8 => (o_1 b h8).trans (ho b h9), _, f_1, fun v hv => by rw [hx9] at hv; cases hv; simp [vp_updL, cb]; first | decide | rfl⟩ (by omega) (by omega)
      · skip
        refine aw_lconst (v := 1) dL_turn_11 (by decide) ?_
        refine aw_goto (tgt := 16) dL_turn_12 (by decide) ?_
        refine aw_lastoreV hf1 (by omega) (by omega) dL_turn_16 (fun h_2 f_2 o_2 => ?_)
        refine aw_goto (tgt := 24) dL_turn_17 (by decide) ?_
        refine aw_ic dL_turn_24 ic_0 ?_
        exact aw_ireturn dL_turn_25 rfl ⟨by rw [hx9]; rfl, by omega, hH1.keep (fun b h9 h8 => o_2 b (by omega)), fun b h9 h8 => (o_2 b h8).trans (ho b h9), _, f_2, fun v hv => by rw [hx9] at hv; cases hv; simp [vp_updL, cb]; first | decide | rfl⟩ (by omega) (by omega)
    · rw [hx9] at hr; cases hr
  · obtain ⟨-, ho, hr, hH1⟩ := hp
    have hf1 := (ho a ha).trans hf
    rcases o_turn σ x p with ⟨x9, hx9⟩ | hx9
    · rw [hx9] at hr; cases hr
    · rw [hx9] at hr; cases hr
      refine awx_catch [] ⟨0, 17, 20, 21⟩ [] rfl (fun _ h => absurd h List.not_mem_nil) (by decide) (by decide) w_538 w_256 (fun q9 => ?_)
      refine aw_astore (L' := [(4, .ref (q9)), (0, .ref (q)), (1, .int (x)), (2, .int (p)), (3, .ref (a))]) dL_turn_20 (by decide) rfl ?_
      refine aw_ic dL_turn_22 ic_1 ?_
      exact aw_ireturn dL_turn_23 rfl ⟨by rw [hx9]; rfl, by omega, hH1, fun b h9 _ => ho b h9, _, hf1, fun v hv => by rw [hx9] at hv; cases hv⟩ (by omega) (by omega)
theorem kL_sequence : aOkH mL_sequence [(0, 8, 11, 15)] 2 := ⟨w_599, w_0, by decide +kernel, w_598⟩
set_option maxHeartbeats 4000000 in
set_option maxRecDepth 20000 in
/-- sequence of the law -/
theorem l_sequence (G : aG) {h : aH} {nx q a c : Nat} {σ : aSg} (hH : HallAt h q σ) (hσ : sgOk c σ) (hc9 : c ≤ 512) (ha : a < q ∨ q + 204 ≤ a) {f : Nat → Int64} (hf : h a = some (.inl (2, 1, .inr (.inl f))))  : aMetH G mL_sequence [(0, 8, 11, 15)] 13 1 6 [.ref (q), .ref (a)] h nx (lPo h q a nx cdC (sSequence σ)) := by
  refine aMetH_of rfl (Nat.le_of_ble_eq_true rfl) ?_
  show aw G mL_sequence [(0, 8, 11, 15)] (aRoom 13 1 6) (aEnd G (lPo h q a nx cdC (sSequence σ)) 1 6) 0 0 h nx 0 [(0, .ref (q)), (1, .ref (a))] []
  refine aw_aload_n dL_sequence_0 rfl ?_
  refine aw_ic dL_sequence_1 ic_0 ?_
  refine aw_aload_n dL_sequence_2 rfl ?_
  refine aw_callV (As := []) (rest := [.int (nI (0)), .ref (a)]) (p_X6_sequence G hH hσ hc9 ) kX6_sequence w_600 hH.1 rfl rfl rfl rfl (Nat.le_of_ble_eq_true rfl) dL_sequence_3 ⟨Nat.le_of_ble_eq_true rfl, Nat.le_of_ble_eq_true rfl⟩ ⟨Nat.le_of_ble_eq_true rfl, Nat.le_of_ble_eq_true rfl⟩ (fun v h1 n1 hp hn => ?_) (fun E h1 n1 hp hn => ?_)
  · obtain ⟨-, ho, hr, hH1⟩ := hp
    rcases o_sequence σ with ⟨x9, hx9⟩ | hx9
    · rw [hx9] at hr
      cases hr
      have hf1 := (ho a ha).trans hf
      refine aw_i2l dL_sequence_6 ?_
      refine aw_lastoreV hf1 (by omega) (by omega) dL_sequence_7 (fun h_1 f_1 o_1 => ?_)
      refine aw_goto (tgt := 14) dL_sequence_8 (by decide) ?_
      refine aw_ic dL_sequence_14 ic_0 ?_
      exact aw_ireturn dL_sequence_15 rfl ⟨by rw [hx9]; rfl, by omega, hH1.keep (fun b h9 h8 => o_1 b (by omega)), fun b h9 h8 => (o_1 b h8).trans (ho b h9), _, f_1, fun v hv => by rw [hx9] at hv; cases hv; simp [vp_updL]⟩ (by omega) (by omega)
    · rw [hx9] at hr; cases hr
  · obtain ⟨-, ho, hr, hH1⟩ := hp
    have hf1 := (ho a ha).trans hf
    rcases o_sequence σ with ⟨x9, hx9⟩ | hx9
    · rw [hx9] at hr; cases hr
    · rw [hx9] at hr; cases hr
      refine awx_catch [] ⟨0, 8, 11, 15⟩ [] rfl (fun _ h => absurd h List.not_mem_nil) (by decide) (by decide) w_509 w_516 (fun q9 => ?_)
      refine aw_astore_n (L' := [(2, .ref (q9)), (0, .ref (q)), (1, .ref (a))]) dL_sequence_11 (by decide) rfl ?_
      refine aw_ic dL_sequence_12 ic_1 ?_
      exact aw_ireturn dL_sequence_13 rfl ⟨by rw [hx9]; rfl, by omega, hH1, fun b h9 _ => ho b h9, _, hf1, fun v hv => by rw [hx9] at hv; cases hv⟩ (by omega) (by omega)
theorem kL_step : aOkH mL_step [(0, 12, 15, 21), (0, 12, 19, 13), (0, 12, 23, 15)] 5 := ⟨w_607, w_0, by decide +kernel, w_606⟩
set_option maxHeartbeats 4000000 in
set_option maxRecDepth 20000 in
/-- step of the law -/
theorem l_step (G : aG) {h : aH} {nx q a c : Nat} {σ : aSg} (hH : HallAt h q σ) (hσ : sgOk c σ) (hc9 : c ≤ 512) (ha : a < q ∨ q + 204 ≤ a) {f : Nat → Int64} (hf : h a = some (.inl (2, 1, .inr (.inl f)))) (x k m : Int32) : aMetH G mL_step [(0, 12, 15, 21), (0, 12, 19, 13), (0, 12, 23, 15)] 13 1 6 [.ref (q), .int (x), .int (k), .int (m), .ref (a)] h nx (lPo h q a nx cdA (sStep σ x k m)) := by
  refine aMetH_of rfl (Nat.le_of_ble_eq_true rfl) ?_
  show aw G mL_step [(0, 12, 15, 21), (0, 12, 19, 13), (0, 12, 23, 15)] (aRoom 13 1 6) (aEnd G (lPo h q a nx cdA (sStep σ x k m)) 1 6) 0 0 h nx 0 [(0, .ref (q)), (1, .int (x)), (2, .int (k)), (3, .int (m)), (4, .ref (a))] []
  refine aw_aload dL_step_0 rfl ?_
  refine aw_ic dL_step_2 ic_0 ?_
  refine aw_aload_n dL_step_3 rfl ?_
  refine aw_iload_n dL_step_4 rfl ?_
  refine aw_iload_n dL_step_5 rfl ?_
  refine aw_iload_n dL_step_6 rfl ?_
  refine aw_callV (As := [.int (x), .int (k), .int (m)]) (rest := [.int (nI (0)), .ref (a)]) (p_X6_step G hH hσ hc9 x k m) kX6_step w_608 hH.1 rfl rfl rfl rfl (Nat.le_of_ble_eq_true rfl) dL_step_7 ⟨Nat.le_of_ble_eq_true rfl, Nat.le_of_ble_eq_true rfl⟩ ⟨Nat.le_of_ble_eq_true rfl, Nat.le_of_ble_eq_true rfl⟩ (fun v h1 n1 hp hn => ?_) (fun E h1 n1 hp hn => ?_)
  · obtain ⟨-, ho, hr, hH1⟩ := hp
    rcases o_step σ x k m with ⟨x9, hx9⟩ | hx9 | hx9 | hx9
    · rw [hx9] at hr
      cases hr
      have hf1 := (ho a ha).trans hf
      refine aw_i2l dL_step_10 ?_
      refine aw_lastoreV hf1 (by omega) (by omega) dL_step_11 (fun h_1 f_1 o_1 => ?_)
      refine aw_goto (tgt := 27) dL_step_12 (by decide) ?_
      refine aw_ic dL_step_27 ic_0 ?_
      exact aw_ireturn dL_step_28 rfl ⟨by rw [hx9]; rfl, by omega, hH1.keep (fun b h9 h8 => o_1 b (by omega)), fun b h9 h8 => (o_1 b h8).trans (ho b h9), _, f_1, fun v hv => by rw [hx9] at hv; cases hv; simp [vp_updL]⟩ (by omega) (by omega)
    · rw [hx9] at hr; cases hr
    · rw [hx9] at hr; cases hr
    · rw [hx9] at hr; cases hr
  · obtain ⟨-, ho, hr, hH1⟩ := hp
    have hf1 := (ho a ha).trans hf
    rcases o_step σ x k m with ⟨x9, hx9⟩ | hx9 | hx9 | hx9
    · rw [hx9] at hr; cases hr
    · rw [hx9] at hr; cases hr
      refine awx_catch [] ⟨0, 12, 15, 21⟩ [⟨0, 12, 19, 13⟩, ⟨0, 12, 23, 15⟩] rfl (fun _ h => absurd h List.not_mem_nil) (by decide) (by decide) w_538 w_256 (fun q9 => ?_)
      refine aw_astore (L' := [(5, .ref (q9)), (0, .ref (q)), (1, .int (x)), (2, .int (k)), (3, .int (m)), (4, .ref (a))]) dL_step_15 (by decide) rfl ?_
      refine aw_ic dL_step_17 ic_1 ?_
      exact aw_ireturn dL_step_18 rfl ⟨by rw [hx9]; rfl, by omega, hH1, fun b h9 _ => ho b h9, _, hf1, fun v hv => by rw [hx9] at hv; cases hv⟩ (by omega) (by omega)
    · rw [hx9] at hr; cases hr
      refine awx_catch [⟨0, 12, 15, 21⟩] ⟨0, 12, 19, 13⟩ [⟨0, 12, 23, 15⟩] rfl (List.forall_mem_cons.mpr ⟨⟨by decide, xIOB, w_538, by decide +kernel⟩, (fun _ h => absurd h List.not_mem_nil)⟩) (by decide) (by decide) w_508 w_136 (fun q9 => ?_)
      refine aw_astore (L' := [(5, .ref (q9)), (0, .ref (q)), (1, .int (x)), (2, .int (k)), (3, .int (m)), (4, .ref (a))]) dL_step_19 (by decide) rfl ?_
      refine aw_ic dL_step_21 ic_2 ?_
      exact aw_ireturn dL_step_22 rfl ⟨by rw [hx9]; rfl, by omega, hH1, fun b h9 _ => ho b h9, _, hf1, fun v hv => by rw [hx9] at hv; cases hv⟩ (by omega) (by omega)
    · rw [hx9] at hr; cases hr
      refine awx_catch [⟨0, 12, 15, 21⟩, ⟨0, 12, 19, 13⟩] ⟨0, 12, 23, 15⟩ [] rfl (List.forall_mem_cons.mpr ⟨⟨by decide, xIOB, w_538, by decide +kernel⟩, (List.forall_mem_cons.mpr ⟨⟨by decide, xIAE, w_508, by decide +kernel⟩, (fun _ h => absurd h List.not_mem_nil)⟩)⟩) (by decide) (by decide) w_509 w_516 (fun q9 => ?_)
      refine aw_astore (L' := [(5, .ref (q9)), (0, .ref (q)), (1, .int (x)), (2, .int (k)), (3, .int (m)), (4, .ref (a))]) dL_step_23 (by decide) rfl ?_
      refine aw_ic dL_step_25 ic_3 ?_
      exact aw_ireturn dL_step_26 rfl ⟨by rw [hx9]; rfl, by omega, hH1, fun b h9 _ => ho b h9, _, hf1, fun v hv => by rw [hx9] at hv; cases hv⟩ (by omega) (by omega)
theorem kL_perform : aOkH mL_perform [(0, 12, 15, 21), (0, 12, 19, 13), (0, 12, 23, 15)] 5 := ⟨w_620, w_0, by decide +kernel, w_619⟩
set_option maxHeartbeats 4000000 in
set_option maxRecDepth 20000 in
/-- perform of the law -/
theorem l_perform (G : aG) {h : aH} {nx q a c : Nat} {σ : aSg} (hH : HallAt h q σ) (hσ : sgOk c σ) (hc9 : c ≤ 512) (ha : a < q ∨ q + 204 ≤ a) {f : Nat → Int64} (hf : h a = some (.inl (2, 1, .inr (.inl f)))) (x y t : Int32) : aMetH G mL_perform [(0, 12, 15, 21), (0, 12, 19, 13), (0, 12, 23, 15)] 13 1 6 [.ref (q), .int (x), .int (y), .int (t), .ref (a)] h nx (lPo h q a nx cdA (sPerform σ x y t)) := by
  refine aMetH_of rfl (Nat.le_of_ble_eq_true rfl) ?_
  show aw G mL_perform [(0, 12, 15, 21), (0, 12, 19, 13), (0, 12, 23, 15)] (aRoom 13 1 6) (aEnd G (lPo h q a nx cdA (sPerform σ x y t)) 1 6) 0 0 h nx 0 [(0, .ref (q)), (1, .int (x)), (2, .int (y)), (3, .int (t)), (4, .ref (a))] []
  refine aw_aload dL_perform_0 rfl ?_
  refine aw_ic dL_perform_2 ic_0 ?_
  refine aw_aload_n dL_perform_3 rfl ?_
  refine aw_iload_n dL_perform_4 rfl ?_
  refine aw_iload_n dL_perform_5 rfl ?_
  refine aw_iload_n dL_perform_6 rfl ?_
  refine aw_callV (As := [.int (x), .int (y), .int (t)]) (rest := [.int (nI (0)), .ref (a)]) (p_X6_perform G hH hσ hc9 x y t) kX6_perform w_621 hH.1 rfl rfl rfl rfl (Nat.le_of_ble_eq_true rfl) dL_perform_7 ⟨Nat.le_of_ble_eq_true rfl, Nat.le_of_ble_eq_true rfl⟩ ⟨Nat.le_of_ble_eq_true rfl, Nat.le_of_ble_eq_true rfl⟩ (fun v h1 n1 hp hn => ?_) (fun E h1 n1 hp hn => ?_)
  · obtain ⟨-, ho, hr, hH1⟩ := hp
    rcases o_perform σ x y t with ⟨x9, hx9⟩ | hx9 | hx9 | hx9
    · rw [hx9] at hr
      cases hr
      have hf1 := (ho a ha).trans hf
      refine aw_i2l dL_perform_10 ?_
      refine aw_lastoreV hf1 (by omega) (by omega) dL_perform_11 (fun h_1 f_1 o_1 => ?_)
      refine aw_goto (tgt := 27) dL_perform_12 (by decide) ?_
      refine aw_ic dL_perform_27 ic_0 ?_
      exact aw_ireturn dL_perform_28 rfl ⟨by rw [hx9]; rfl, by omega, hH1.keep (fun b h9 h8 => o_1 b (by omega)), fun b h9 h8 => (o_1 b h8).trans (ho b h9), _, f_1, fun v hv => by rw [hx9] at hv; cases hv; simp [vp_updL]⟩ (by omega) (by omega)
    · rw [hx9] at hr; cases hr
    · rw [hx9] at hr; cases hr
    · rw [hx9] at hr; cases hr
  · obtain ⟨-, ho, hr, hH1⟩ := hp
    have hf1 := (ho a ha).trans hf
    rcases o_perform σ x y t with ⟨x9, hx9⟩ | hx9 | hx9 | hx9
    · rw [hx9] at hr; cases hr
    · rw [hx9] at hr; cases hr
      refine awx_catch [] ⟨0, 12, 15, 21⟩ [⟨0, 12, 19, 13⟩, ⟨0, 12, 23, 15⟩] rfl (fun _ h => absurd h List.not_mem_nil) (by decide) (by decide) w_538 w_256 (fun q9 => ?_)
      refine aw_astore (L' := [(5, .ref (q9)), (0, .ref (q)), (1, .int (x)), (2, .int (y)), (3, .int (t)), (4, .ref (a))]) dL_perform_15 (by decide) rfl ?_
      refine aw_ic dL_perform_17 ic_1 ?_
      exact aw_ireturn dL_perform_18 rfl ⟨by rw [hx9]; rfl, by omega, hH1, fun b h9 _ => ho b h9, _, hf1, fun v hv => by rw [hx9] at hv; cases hv⟩ (by omega) (by omega)
    · rw [hx9] at hr; cases hr
      refine awx_catch [⟨0, 12, 15, 21⟩] ⟨0, 12, 19, 13⟩ [⟨0, 12, 23, 15⟩] rfl (List.forall_mem_cons.mpr ⟨⟨by decide, xIOB, w_538, by decide +kernel⟩, (fun _ h => absurd h List.not_mem_nil)⟩) (by decide) (by decide) w_508 w_136 (fun q9 => ?_)
      refine aw_astore (L' := [(5, .ref (q9)), (0, .ref (q)), (1, .int (x)), (2, .int (y)), (3, .int (t)), (4, .ref (a))]) dL_perform_19 (by decide) rfl ?_
      refine aw_ic dL_perform_21 ic_2 ?_
      exact aw_ireturn dL_perform_22 rfl ⟨by rw [hx9]; rfl, by omega, hH1, fun b h9 _ => ho b h9, _, hf1, fun v hv => by rw [hx9] at hv; cases hv⟩ (by omega) (by omega)
    · rw [hx9] at hr; cases hr
      refine awx_catch [⟨0, 12, 15, 21⟩, ⟨0, 12, 19, 13⟩] ⟨0, 12, 23, 15⟩ [] rfl (List.forall_mem_cons.mpr ⟨⟨by decide, xIOB, w_538, by decide +kernel⟩, (List.forall_mem_cons.mpr ⟨⟨by decide, xIAE, w_508, by decide +kernel⟩, (fun _ h => absurd h List.not_mem_nil)⟩)⟩) (by decide) (by decide) w_509 w_516 (fun q9 => ?_)
      refine aw_astore (L' := [(5, .ref (q9)), (0, .ref (q)), (1, .int (x)), (2, .int (y)), (3, .int (t)), (4, .ref (a))]) dL_perform_23 (by decide) rfl ?_
      refine aw_ic dL_perform_25 ic_3 ?_
      exact aw_ireturn dL_perform_26 rfl ⟨by rw [hx9]; rfl, by omega, hH1, fun b h9 _ => ho b h9, _, hf1, fun v hv => by rw [hx9] at hv; cases hv⟩ (by omega) (by omega)
theorem kL_card : aOkH mL_card [(0, 10, 13, 21)] 4 := ⟨w_628, w_0, by decide +kernel, w_627⟩
set_option maxHeartbeats 4000000 in
set_option maxRecDepth 20000 in
/-- card of the law -/
theorem l_card (G : aG) {h : aH} {nx q a c : Nat} {σ : aSg} (hH : HallAt h q σ) (hσ : sgOk c σ) (hc9 : c ≤ 512) (ha : a < q ∨ q + 204 ≤ a) {f : Nat → Int64} (hf : h a = some (.inl (2, 1, .inr (.inl f)))) (x p : Int32) : aMetH G mL_card [(0, 10, 13, 21)] 13 1 6 [.ref (q), .int (x), .int (p), .ref (a)] h nx (lPo h q a nx cdA (sCard σ x p)) := by
  refine aMetH_of rfl (Nat.le_of_ble_eq_true rfl) ?_
  show aw G mL_card [(0, 10, 13, 21)] (aRoom 13 1 6) (aEnd G (lPo h q a nx cdA (sCard σ x p)) 1 6) 0 0 h nx 0 [(0, .ref (q)), (1, .int (x)), (2, .int (p)), (3, .ref (a))] []
  refine aw_aload_n dL_card_0 rfl ?_
  refine aw_ic dL_card_1 ic_0 ?_
  refine aw_aload_n dL_card_2 rfl ?_
  refine aw_iload_n dL_card_3 rfl ?_
  refine aw_iload_n dL_card_4 rfl ?_
  refine aw_callV (As := [.int (x), .int (p)]) (rest := [.int (nI (0)), .ref (a)]) (p_X6_card G hH hσ hc9 x p) kX6_card w_629 hH.1 rfl rfl rfl rfl (Nat.le_of_ble_eq_true rfl) dL_card_5 ⟨Nat.le_of_ble_eq_true rfl, Nat.le_of_ble_eq_true rfl⟩ ⟨Nat.le_of_ble_eq_true rfl, Nat.le_of_ble_eq_true rfl⟩ (fun v h1 n1 hp hn => ?_) (fun E h1 n1 hp hn => ?_)
  · obtain ⟨-, ho, hr, hH1⟩ := hp
    rcases o_card σ x p with ⟨x9, hx9⟩ | hx9
    · rw [hx9] at hr
      cases hr
      have hf1 := (ho a ha).trans hf
      refine aw_i2l dL_card_8 ?_
      refine aw_lastoreV hf1 (by omega) (by omega) dL_card_9 (fun h_1 f_1 o_1 => ?_)
      refine aw_goto (tgt := 17) dL_card_10 (by decide) ?_
      refine aw_ic dL_card_17 ic_0 ?_
      exact aw_ireturn dL_card_18 rfl ⟨by rw [hx9]; rfl, by omega, hH1.keep (fun b h9 h8 => o_1 b (by omega)), fun b h9 h8 => (o_1 b h8).trans (ho b h9), _, f_1, fun v hv => by rw [hx9] at hv; cases hv; simp [vp_updL]⟩ (by omega) (by omega)
    · rw [hx9] at hr; cases hr
  · obtain ⟨-, ho, hr, hH1⟩ := hp
    have hf1 := (ho a ha).trans hf
    rcases o_card σ x p with ⟨x9, hx9⟩ | hx9
    · rw [hx9] at hr; cases hr
    · rw [hx9] at hr; cases hr
      refine awx_catch [] ⟨0, 10, 13, 21⟩ [] rfl (fun _ h => absurd h List.not_mem_nil) (by decide) (by decide) w_538 w_256 (fun q9 => ?_)
      refine aw_astore (L' := [(4, .ref (q9)), (0, .ref (q)), (1, .int (x)), (2, .int (p)), (3, .ref (a))]) dL_card_13 (by decide) rfl ?_
      refine aw_ic dL_card_15 ic_1 ?_
      exact aw_ireturn dL_card_16 rfl ⟨by rw [hx9]; rfl, by omega, hH1, fun b h9 _ => ho b h9, _, hf1, fun v hv => by rw [hx9] at hv; cases hv⟩ (by omega) (by omega)
theorem kL_find : aOkH mL_find [(0, 12, 15, 21)] 5 := ⟨w_632, w_0, by decide +kernel, w_631⟩
set_option maxHeartbeats 4000000 in
set_option maxRecDepth 20000 in
/-- find of the law -/
theorem l_find (G : aG) {h : aH} {nx q a c : Nat} {σ : aSg} (hH : HallAt h q σ) (hσ : sgOk c σ) (hc9 : c ≤ 512) (ha : a < q ∨ q + 204 ≤ a) {f : Nat → Int64} (hf : h a = some (.inl (2, 1, .inr (.inl f)))) (x p : Int32) (z : Bool) : aMetH G mL_find [(0, 12, 15, 21)] 13 1 6 [.ref (q), .int (x), .int (p), .int (bI (z)), .ref (a)] h nx (lPo h q a nx cdA (sFind σ x p z)) := by
  refine aMetH_of rfl (Nat.le_of_ble_eq_true rfl) ?_
  show aw G mL_find [(0, 12, 15, 21)] (aRoom 13 1 6) (aEnd G (lPo h q a nx cdA (sFind σ x p z)) 1 6) 0 0 h nx 0 [(0, .ref (q)), (1, .int (x)), (2, .int (p)), (3, .int (bI (z))), (4, .ref (a))] []
  refine aw_aload dL_find_0 rfl ?_
  refine aw_ic dL_find_2 ic_0 ?_
  refine aw_aload_n dL_find_3 rfl ?_
  refine aw_iload_n dL_find_4 rfl ?_
  refine aw_iload_n dL_find_5 rfl ?_
  refine aw_iload_n dL_find_6 rfl ?_
  refine aw_callV (As := [.int (x), .int (p), .int (bI (z))]) (rest := [.int (nI (0)), .ref (a)]) (p_X6_find G hH hσ hc9 x p z) kX6_find w_633 hH.1 rfl rfl rfl rfl (Nat.le_of_ble_eq_true rfl) dL_find_7 ⟨Nat.le_of_ble_eq_true rfl, Nat.le_of_ble_eq_true rfl⟩ ⟨Nat.le_of_ble_eq_true rfl, Nat.le_of_ble_eq_true rfl⟩ (fun v h1 n1 hp hn => ?_) (fun E h1 n1 hp hn => ?_)
  · obtain ⟨-, ho, hr, hH1⟩ := hp
    rcases o_find σ x p z with ⟨x9, hx9⟩ | hx9
    · rw [hx9] at hr
      cases hr
      have hf1 := (ho a ha).trans hf
      refine aw_i2l dL_find_10 ?_
      refine aw_lastoreV hf1 (by omega) (by omega) dL_find_11 (fun h_1 f_1 o_1 => ?_)
      refine aw_goto (tgt := 19) dL_find_12 (by decide) ?_
      refine aw_ic dL_find_19 ic_0 ?_
      exact aw_ireturn dL_find_20 rfl ⟨by rw [hx9]; rfl, by omega, hH1.keep (fun b h9 h8 => o_1 b (by omega)), fun b h9 h8 => (o_1 b h8).trans (ho b h9), _, f_1, fun v hv => by rw [hx9] at hv; cases hv; simp [vp_updL]⟩ (by omega) (by omega)
    · rw [hx9] at hr; cases hr
  · obtain ⟨-, ho, hr, hH1⟩ := hp
    have hf1 := (ho a ha).trans hf
    rcases o_find σ x p z with ⟨x9, hx9⟩ | hx9
    · rw [hx9] at hr; cases hr
    · rw [hx9] at hr; cases hr
      refine awx_catch [] ⟨0, 12, 15, 21⟩ [] rfl (fun _ h => absurd h List.not_mem_nil) (by decide) (by decide) w_538 w_256 (fun q9 => ?_)
      refine aw_astore (L' := [(5, .ref (q9)), (0, .ref (q)), (1, .int (x)), (2, .int (p)), (3, .int (bI (z))), (4, .ref (a))]) dL_find_15 (by decide) rfl ?_
      refine aw_ic dL_find_17 ic_1 ?_
      exact aw_ireturn dL_find_18 rfl ⟨by rw [hx9]; rfl, by omega, hH1, fun b h9 _ => ho b h9, _, hf1, fun v hv => by rw [hx9] at hv; cases hv⟩ (by omega) (by omega)
theorem kL_ofDeck : aOkH mL_ofDeck [(0, 10, 13, 21), (0, 10, 17, 13)] 4 := ⟨w_636, w_0, by decide +kernel, w_635⟩
set_option maxHeartbeats 4000000 in
set_option maxRecDepth 20000 in
/-- ofDeck of the law -/
theorem l_ofDeck (G : aG) {h : aH} {nx q a c : Nat} {σ : aSg} (hH : HallAt h q σ) (hσ : sgOk c σ) (hc9 : c ≤ 512) (ha : a < q ∨ q + 204 ≤ a) {f : Nat → Int64} (hf : h a = some (.inl (2, 1, .inr (.inl f)))) (x w : Int32) : aMetH G mL_ofDeck [(0, 10, 13, 21), (0, 10, 17, 13)] 13 1 6 [.ref (q), .int (x), .int (w), .ref (a)] h nx (lPo h q a nx cdA (sOfDeck σ x w)) := by
  refine aMetH_of rfl (Nat.le_of_ble_eq_true rfl) ?_
  show aw G mL_ofDeck [(0, 10, 13, 21), (0, 10, 17, 13)] (aRoom 13 1 6) (aEnd G (lPo h q a nx cdA (sOfDeck σ x w)) 1 6) 0 0 h nx 0 [(0, .ref (q)), (1, .int (x)), (2, .int (w)), (3, .ref (a))] []
  refine aw_aload_n dL_ofDeck_0 rfl ?_
  refine aw_ic dL_ofDeck_1 ic_0 ?_
  refine aw_aload_n dL_ofDeck_2 rfl ?_
  refine aw_iload_n dL_ofDeck_3 rfl ?_
  refine aw_iload_n dL_ofDeck_4 rfl ?_
  refine aw_callV (As := [.int (x), .int (w)]) (rest := [.int (nI (0)), .ref (a)]) (p_X6_ofDeck G hH hσ hc9 x w) kX6_ofDeck w_637 hH.1 rfl rfl rfl rfl (Nat.le_of_ble_eq_true rfl) dL_ofDeck_5 ⟨Nat.le_of_ble_eq_true rfl, Nat.le_of_ble_eq_true rfl⟩ ⟨Nat.le_of_ble_eq_true rfl, Nat.le_of_ble_eq_true rfl⟩ (fun v h1 n1 hp hn => ?_) (fun E h1 n1 hp hn => ?_)
  · obtain ⟨-, ho, hr, hH1⟩ := hp
    rcases o_ofDeck σ x w with ⟨x9, hx9⟩ | hx9 | hx9
    · rw [hx9] at hr
      cases hr
      have hf1 := (ho a ha).trans hf
      refine aw_i2l dL_ofDeck_8 ?_
      refine aw_lastoreV hf1 (by omega) (by omega) dL_ofDeck_9 (fun h_1 f_1 o_1 => ?_)
      refine aw_goto (tgt := 21) dL_ofDeck_10 (by decide) ?_
      refine aw_ic dL_ofDeck_21 ic_0 ?_
      exact aw_ireturn dL_ofDeck_22 rfl ⟨by rw [hx9]; rfl, by omega, hH1.keep (fun b h9 h8 => o_1 b (by omega)), fun b h9 h8 => (o_1 b h8).trans (ho b h9), _, f_1, fun v hv => by rw [hx9] at hv; cases hv; simp [vp_updL]⟩ (by omega) (by omega)
    · rw [hx9] at hr; cases hr
    · rw [hx9] at hr; cases hr
  · obtain ⟨-, ho, hr, hH1⟩ := hp
    have hf1 := (ho a ha).trans hf
    rcases o_ofDeck σ x w with ⟨x9, hx9⟩ | hx9 | hx9
    · rw [hx9] at hr; cases hr
    · rw [hx9] at hr; cases hr
      refine awx_catch [] ⟨0, 10, 13, 21⟩ [⟨0, 10, 17, 13⟩] rfl (fun _ h => absurd h List.not_mem_nil) (by decide) (by decide) w_538 w_256 (fun q9 => ?_)
      refine aw_astore (L' := [(4, .ref (q9)), (0, .ref (q)), (1, .int (x)), (2, .int (w)), (3, .ref (a))]) dL_ofDeck_13 (by decide) rfl ?_
      refine aw_ic dL_ofDeck_15 ic_1 ?_
      exact aw_ireturn dL_ofDeck_16 rfl ⟨by rw [hx9]; rfl, by omega, hH1, fun b h9 _ => ho b h9, _, hf1, fun v hv => by rw [hx9] at hv; cases hv⟩ (by omega) (by omega)
    · rw [hx9] at hr; cases hr
      refine awx_catch [⟨0, 10, 13, 21⟩] ⟨0, 10, 17, 13⟩ [] rfl (List.forall_mem_cons.mpr ⟨⟨by decide, xIOB, w_538, by decide +kernel⟩, (fun _ h => absurd h List.not_mem_nil)⟩) (by decide) (by decide) w_508 w_136 (fun q9 => ?_)
      refine aw_astore (L' := [(4, .ref (q9)), (0, .ref (q)), (1, .int (x)), (2, .int (w)), (3, .ref (a))]) dL_ofDeck_17 (by decide) rfl ?_
      refine aw_ic dL_ofDeck_19 ic_2 ?_
      exact aw_ireturn dL_ofDeck_20 rfl ⟨by rw [hx9]; rfl, by omega, hH1, fun b h9 _ => ho b h9, _, hf1, fun v hv => by rw [hx9] at hv; cases hv⟩ (by omega) (by omega)
theorem kL_keeps : aOkH mL_keeps [(0, 17, 20, 21), (0, 17, 24, 13)] 4 := ⟨w_640, w_0, by decide +kernel, w_639⟩
set_option maxHeartbeats 4000000 in
set_option maxRecDepth 20000 in
/-- keeps of the law -/
theorem l_keeps (G : aG) {h : aH} {nx q a c : Nat} {σ : aSg} (hH : HallAt h q σ) (hσ : sgOk c σ) (hc9 : c ≤ 512) (ha : a < q ∨ q + 204 ≤ a) {f : Nat → Int64} (hf : h a = some (.inl (2, 1, .inr (.inl f)))) (x w : Int32) : aMetH G mL_keeps [(0, 17, 20, 21), (0, 17, 24, 13)] 13 1 6 [.ref (q), .int (x), .int (w), .ref (a)] h nx (lPo h q a nx cdA (sKeeps σ x w)) := by
  refine aMetH_of rfl (Nat.le_of_ble_eq_true rfl) ?_
  show aw G mL_keeps [(0, 17, 20, 21), (0, 17, 24, 13)] (aRoom 13 1 6) (aEnd G (lPo h q a nx cdA (sKeeps σ x w)) 1 6) 0 0 h nx 0 [(0, .ref (q)), (1, .int (x)), (2, .int (w)), (3, .ref (a))] []
  refine aw_aload_n dL_keeps_0 rfl ?_
  refine aw_ic dL_keeps_1 ic_0 ?_
  refine aw_aload_n dL_keeps_2 rfl ?_
  refine aw_iload_n dL_keeps_3 rfl ?_
  refine aw_iload_n dL_keeps_4 rfl ?_
  refine aw_callV (As := [.int (x), .int (w)]) (rest := [.int (nI (0)), .ref (a)]) (p_X6_keeps G hH hσ hc9 x w) kX6_keeps w_641 hH.1 rfl rfl rfl rfl (Nat.le_of_ble_eq_true rfl) dL_keeps_5 ⟨Nat.le_of_ble_eq_true rfl, Nat.le_of_ble_eq_true rfl⟩ ⟨Nat.le_of_ble_eq_true rfl, Nat.le_of_ble_eq_true rfl⟩ (fun v h1 n1 hp hn => ?_) (fun E h1 n1 hp hn => ?_)
  · obtain ⟨-, ho, hr, hH1⟩ := hp
    rcases o_keeps σ x w with ⟨x9, hx9⟩ | hx9 | hx9
    · rw [hx9] at hr
      cases hr
      have hf1 := (ho a ha).trans hf
      refine aw_if_eqB (tgt := 15) dL_keeps_8 (by decide) (fun cb => ?_) (fun cb => ?_)
      · skip
        refine aw_lconst (v := 0) dL_keeps_15 (by decide) ?_
        refine aw_lastoreV hf1 (by omega) (by omega) dL_keeps_16 (fun h_1 f_1 o_1 => ?_)
        refine aw_goto (tgt := 28) dL_keeps_17 (by decide) ?_
        refine aw_ic dL_keeps_28 ic_0 ?_
        exact aw_ireturn dL_keeps_29 rfl ⟨by rw [hx9]; rfl, by omega, hH1.keep (fun b h9 h8 => o_1 b (by omega)), fun b h9 h8 => (o_1 b h8).trans (ho b h9), _, f_1, fun v hv => by rw [hx9] at hv; cases hv; simp [vp_updL, cb]; first | decide | rfl⟩ (by omega) (by omega)
      · skip
        refine aw_lconst (v := 1) dL_keeps_11 (by decide) ?_
        refine aw_goto (tgt := 16) dL_keeps_12 (by decide) ?_
        refine aw_lastoreV hf1 (by omega) (by omega) dL_keeps_16 (fun h_2 f_2 o_2 => ?_)
        refine aw_goto (tgt := 28) dL_keeps_17 (by decide) ?_
        refine aw_ic dL_keeps_28 ic_0 ?_
        exact aw_ireturn dL_keeps_29 rfl ⟨by rw [hx9]; rfl, by omega, hH1.keep (fun b h9 h8 => o_2 b (by omega)), fun b h9 h8 => (o_2 b h8).trans (ho b h9), _, f_2, fun v hv => by rw [hx9] at hv; cases hv; simp [vp_updL, cb]; first | decide | rfl⟩ (by omega) (by omega)
    · rw [hx9] at hr; cases hr
    · rw [hx9] at hr; cases hr
  · obtain ⟨-, ho, hr, hH1⟩ := hp
    have hf1 := (ho a ha).trans hf
    rcases o_keeps σ x w with ⟨x9, hx9⟩ | hx9 | hx9
    · rw [hx9] at hr; cases hr
    · rw [hx9] at hr; cases hr
      refine awx_catch [] ⟨0, 17, 20, 21⟩ [⟨0, 17, 24, 13⟩] rfl (fun _ h => absurd h List.not_mem_nil) (by decide) (by decide) w_538 w_256 (fun q9 => ?_)
      refine aw_astore (L' := [(4, .ref (q9)), (0, .ref (q)), (1, .int (x)), (2, .int (w)), (3, .ref (a))]) dL_keeps_20 (by decide) rfl ?_
      refine aw_ic dL_keeps_22 ic_1 ?_
      exact aw_ireturn dL_keeps_23 rfl ⟨by rw [hx9]; rfl, by omega, hH1, fun b h9 _ => ho b h9, _, hf1, fun v hv => by rw [hx9] at hv; cases hv⟩ (by omega) (by omega)
    · rw [hx9] at hr; cases hr
      refine awx_catch [⟨0, 17, 20, 21⟩] ⟨0, 17, 24, 13⟩ [] rfl (List.forall_mem_cons.mpr ⟨⟨by decide, xIOB, w_538, by decide +kernel⟩, (fun _ h => absurd h List.not_mem_nil)⟩) (by decide) (by decide) w_508 w_136 (fun q9 => ?_)
      refine aw_astore (L' := [(4, .ref (q9)), (0, .ref (q)), (1, .int (x)), (2, .int (w)), (3, .ref (a))]) dL_keeps_24 (by decide) rfl ?_
      refine aw_ic dL_keeps_26 ic_2 ?_
      exact aw_ireturn dL_keeps_27 rfl ⟨by rw [hx9]; rfl, by omega, hH1, fun b h9 _ => ho b h9, _, hf1, fun v hv => by rw [hx9] at hv; cases hv⟩ (by omega) (by omega)
theorem kL_chance : aOkH mL_chance [(0, 9, 12, 21), (0, 9, 16, 13)] 4 := ⟨w_644, w_0, by decide +kernel, w_643⟩
set_option maxHeartbeats 4000000 in
set_option maxRecDepth 20000 in
/-- chance of the law -/
theorem l_chance (G : aG) {h : aH} {nx q a c : Nat} {σ : aSg} (hH : HallAt h q σ) (hσ : sgOk c σ) (hc9 : c ≤ 512) (ha : a < q ∨ q + 204 ≤ a) {f : Nat → UInt64} (hf : h a = some (.inl (3, 1, .inr (.inr (.inr (.inl f)))))) (x k : Int32) : aMetH G mL_chance [(0, 9, 12, 21), (0, 9, 16, 13)] 13 1 6 [.ref (q), .int (x), .int (k), .ref (a)] h nx (lPoD h q a nx cdA (sChance σ x k)) := by
  refine aMetH_of rfl (Nat.le_of_ble_eq_true rfl) ?_
  show aw G mL_chance [(0, 9, 12, 21), (0, 9, 16, 13)] (aRoom 13 1 6) (aEnd G (lPoD h q a nx cdA (sChance σ x k)) 1 6) 0 0 h nx 0 [(0, .ref (q)), (1, .int (x)), (2, .int (k)), (3, .ref (a))] []
  refine aw_aload_n dL_chance_0 rfl ?_
  refine aw_ic dL_chance_1 ic_0 ?_
  refine aw_aload_n dL_chance_2 rfl ?_
  refine aw_iload_n dL_chance_3 rfl ?_
  refine aw_iload_n dL_chance_4 rfl ?_
  refine aw_callV (As := [.int (x), .int (k)]) (rest := [.int (nI (0)), .ref (a)]) (p_X6_chance G hH hσ hc9 x k) kX6_chance w_645 hH.1 rfl rfl rfl rfl (Nat.le_of_ble_eq_true rfl) dL_chance_5 ⟨Nat.le_of_ble_eq_true rfl, Nat.le_of_ble_eq_true rfl⟩ ⟨Nat.le_of_ble_eq_true rfl, Nat.le_of_ble_eq_true rfl⟩ (fun v h1 n1 hp hn => ?_) (fun E h1 n1 hp hn => ?_)
  · obtain ⟨-, ho, hr, hH1⟩ := hp
    rcases o_chance σ x k with ⟨x9, hx9⟩ | hx9 | hx9
    · rw [hx9] at hr
      cases hr
      have hf1 := (ho a ha).trans hf
      refine aw_dastoreV hf1 (by omega) (by omega) dL_chance_8 (fun h_1 f_1 o_1 => ?_)
      refine aw_goto (tgt := 20) dL_chance_9 (by decide) ?_
      refine aw_ic dL_chance_20 ic_0 ?_
      exact aw_ireturn dL_chance_21 rfl ⟨by rw [hx9]; rfl, by omega, hH1.keep (fun b h9 h8 => o_1 b (by omega)), fun b h9 h8 => (o_1 b h8).trans (ho b h9), _, f_1, fun v hv => by rw [hx9] at hv; cases hv; simp [vf_upd]⟩ (by omega) (by omega)
    · rw [hx9] at hr; cases hr
    · rw [hx9] at hr; cases hr
  · obtain ⟨-, ho, hr, hH1⟩ := hp
    have hf1 := (ho a ha).trans hf
    rcases o_chance σ x k with ⟨x9, hx9⟩ | hx9 | hx9
    · rw [hx9] at hr; cases hr
    · rw [hx9] at hr; cases hr
      refine awx_catch [] ⟨0, 9, 12, 21⟩ [⟨0, 9, 16, 13⟩] rfl (fun _ h => absurd h List.not_mem_nil) (by decide) (by decide) w_538 w_256 (fun q9 => ?_)
      refine aw_astore (L' := [(4, .ref (q9)), (0, .ref (q)), (1, .int (x)), (2, .int (k)), (3, .ref (a))]) dL_chance_12 (by decide) rfl ?_
      refine aw_ic dL_chance_14 ic_1 ?_
      exact aw_ireturn dL_chance_15 rfl ⟨by rw [hx9]; rfl, by omega, hH1, fun b h9 _ => ho b h9, _, hf1, fun v hv => by rw [hx9] at hv; cases hv⟩ (by omega) (by omega)
    · rw [hx9] at hr; cases hr
      refine awx_catch [⟨0, 9, 12, 21⟩] ⟨0, 9, 16, 13⟩ [] rfl (List.forall_mem_cons.mpr ⟨⟨by decide, xIOB, w_538, by decide +kernel⟩, (fun _ h => absurd h List.not_mem_nil)⟩) (by decide) (by decide) w_508 w_136 (fun q9 => ?_)
      refine aw_astore (L' := [(4, .ref (q9)), (0, .ref (q)), (1, .int (x)), (2, .int (k)), (3, .ref (a))]) dL_chance_16 (by decide) rfl ?_
      refine aw_ic dL_chance_18 ic_2 ?_
      exact aw_ireturn dL_chance_19 rfl ⟨by rw [hx9]; rfl, by omega, hH1, fun b h9 _ => ho b h9, _, hf1, fun v hv => by rw [hx9] at hv; cases hv⟩ (by omega) (by omega)
theorem kL_far : aOkH mL_far [(0, 8, 11, 21)] 3 := ⟨w_652, w_0, by decide +kernel, w_651⟩
set_option maxHeartbeats 4000000 in
set_option maxRecDepth 20000 in
/-- far of the law -/
theorem l_far (G : aG) {h : aH} {nx q a c : Nat} {σ : aSg} (hH : HallAt h q σ) (hσ : sgOk c σ) (hc9 : c ≤ 512) (ha : a < q ∨ q + 204 ≤ a) {f : Nat → UInt64} (hf : h a = some (.inl (3, 1, .inr (.inr (.inr (.inl f)))))) (x : Int32) : aMetH G mL_far [(0, 8, 11, 21)] 13 1 6 [.ref (q), .int (x), .ref (a)] h nx (lPoD h q a nx cdA (sFar σ x)) := by
  refine aMetH_of rfl (Nat.le_of_ble_eq_true rfl) ?_
  show aw G mL_far [(0, 8, 11, 21)] (aRoom 13 1 6) (aEnd G (lPoD h q a nx cdA (sFar σ x)) 1 6) 0 0 h nx 0 [(0, .ref (q)), (1, .int (x)), (2, .ref (a))] []
  refine aw_aload_n dL_far_0 rfl ?_
  refine aw_ic dL_far_1 ic_0 ?_
  refine aw_aload_n dL_far_2 rfl ?_
  refine aw_iload_n dL_far_3 rfl ?_
  refine aw_callV (As := [.int (x)]) (rest := [.int (nI (0)), .ref (a)]) (p_X6_far G hH hσ hc9 x) kX6_far w_653 hH.1 rfl rfl rfl rfl (Nat.le_of_ble_eq_true rfl) dL_far_4 ⟨Nat.le_of_ble_eq_true rfl, Nat.le_of_ble_eq_true rfl⟩ ⟨Nat.le_of_ble_eq_true rfl, Nat.le_of_ble_eq_true rfl⟩ (fun v h1 n1 hp hn => ?_) (fun E h1 n1 hp hn => ?_)
  · obtain ⟨-, ho, hr, hH1⟩ := hp
    rcases o_far σ x with ⟨x9, hx9⟩ | hx9
    · rw [hx9] at hr
      cases hr
      have hf1 := (ho a ha).trans hf
      refine aw_dastoreV hf1 (by omega) (by omega) dL_far_7 (fun h_1 f_1 o_1 => ?_)
      refine aw_goto (tgt := 14) dL_far_8 (by decide) ?_
      refine aw_ic dL_far_14 ic_0 ?_
      exact aw_ireturn dL_far_15 rfl ⟨by rw [hx9]; rfl, by omega, hH1.keep (fun b h9 h8 => o_1 b (by omega)), fun b h9 h8 => (o_1 b h8).trans (ho b h9), _, f_1, fun v hv => by rw [hx9] at hv; cases hv; simp [vf_upd]⟩ (by omega) (by omega)
    · rw [hx9] at hr; cases hr
  · obtain ⟨-, ho, hr, hH1⟩ := hp
    have hf1 := (ho a ha).trans hf
    rcases o_far σ x with ⟨x9, hx9⟩ | hx9
    · rw [hx9] at hr; cases hr
    · rw [hx9] at hr; cases hr
      refine awx_catch [] ⟨0, 8, 11, 21⟩ [] rfl (fun _ h => absurd h List.not_mem_nil) (by decide) (by decide) w_538 w_256 (fun q9 => ?_)
      refine aw_astore_n (L' := [(3, .ref (q9)), (0, .ref (q)), (1, .int (x)), (2, .ref (a))]) dL_far_11 (by decide) rfl ?_
      refine aw_ic dL_far_12 ic_1 ?_
      exact aw_ireturn dL_far_13 rfl ⟨by rw [hx9]; rfl, by omega, hH1, fun b h9 _ => ho b h9, _, hf1, fun v hv => by rw [hx9] at hv; cases hv⟩ (by omega) (by omega)
theorem kL_alike : aOkH mL_alike [(0, 10, 13, 21)] 4 := ⟨w_662, w_0, by decide +kernel, w_661⟩
set_option maxHeartbeats 4000000 in
set_option maxRecDepth 20000 in
/-- alike of the law -/
theorem l_alike (G : aG) {h : aH} {nx q a c : Nat} {σ : aSg} (hH : HallAt h q σ) (hσ : sgOk c σ) (hc9 : c ≤ 512) (ha : a < q ∨ q + 204 ≤ a) {f : Nat → Int64} (hf : h a = some (.inl (2, 1, .inr (.inl f)))) (x y : Int32) : aMetH G mL_alike [(0, 10, 13, 21)] 13 1 6 [.ref (q), .int (x), .int (y), .ref (a)] h nx (lPo h q a nx cdA (sAlike σ x y)) := by
  refine aMetH_of rfl (Nat.le_of_ble_eq_true rfl) ?_
  show aw G mL_alike [(0, 10, 13, 21)] (aRoom 13 1 6) (aEnd G (lPo h q a nx cdA (sAlike σ x y)) 1 6) 0 0 h nx 0 [(0, .ref (q)), (1, .int (x)), (2, .int (y)), (3, .ref (a))] []
  refine aw_aload_n dL_alike_0 rfl ?_
  refine aw_ic dL_alike_1 ic_0 ?_
  refine aw_aload_n dL_alike_2 rfl ?_
  refine aw_iload_n dL_alike_3 rfl ?_
  refine aw_iload_n dL_alike_4 rfl ?_
  refine aw_callV (As := [.int (x), .int (y)]) (rest := [.int (nI (0)), .ref (a)]) (p_X6_alike G hH hσ hc9 x y) kX6_alike w_663 hH.1 rfl rfl rfl rfl (Nat.le_of_ble_eq_true rfl) dL_alike_5 ⟨Nat.le_of_ble_eq_true rfl, Nat.le_of_ble_eq_true rfl⟩ ⟨Nat.le_of_ble_eq_true rfl, Nat.le_of_ble_eq_true rfl⟩ (fun v h1 n1 hp hn => ?_) (fun E h1 n1 hp hn => ?_)
  · obtain ⟨-, ho, hr, hH1⟩ := hp
    rcases o_alike σ x y with ⟨x9, hx9⟩ | hx9
    · rw [hx9] at hr
      cases hr
      have hf1 := (ho a ha).trans hf
      refine aw_i2l dL_alike_8 ?_
      refine aw_lastoreV hf1 (by omega) (by omega) dL_alike_9 (fun h_1 f_1 o_1 => ?_)
      refine aw_goto (tgt := 17) dL_alike_10 (by decide) ?_
      refine aw_ic dL_alike_17 ic_0 ?_
      exact aw_ireturn dL_alike_18 rfl ⟨by rw [hx9]; rfl, by omega, hH1.keep (fun b h9 h8 => o_1 b (by omega)), fun b h9 h8 => (o_1 b h8).trans (ho b h9), _, f_1, fun v hv => by rw [hx9] at hv; cases hv; simp [vp_updL]⟩ (by omega) (by omega)
    · rw [hx9] at hr; cases hr
  · obtain ⟨-, ho, hr, hH1⟩ := hp
    have hf1 := (ho a ha).trans hf
    rcases o_alike σ x y with ⟨x9, hx9⟩ | hx9
    · rw [hx9] at hr; cases hr
    · rw [hx9] at hr; cases hr
      refine awx_catch [] ⟨0, 10, 13, 21⟩ [] rfl (fun _ h => absurd h List.not_mem_nil) (by decide) (by decide) w_538 w_256 (fun q9 => ?_)
      refine aw_astore (L' := [(4, .ref (q9)), (0, .ref (q)), (1, .int (x)), (2, .int (y)), (3, .ref (a))]) dL_alike_13 (by decide) rfl ?_
      refine aw_ic dL_alike_15 ic_1 ?_
      exact aw_ireturn dL_alike_16 rfl ⟨by rw [hx9]; rfl, by omega, hH1, fun b h9 _ => ho b h9, _, hf1, fun v hv => by rw [hx9] at hv; cases hv⟩ (by omega) (by omega)
theorem kL_ofSequence : aOkH mL_ofSequence [(0, 10, 13, 21), (0, 10, 17, 13)] 4 := ⟨w_666, w_0, by decide +kernel, w_665⟩
set_option maxHeartbeats 4000000 in
set_option maxRecDepth 20000 in
/-- ofSequence of the law -/
theorem l_ofSequence (G : aG) {h : aH} {nx q a c : Nat} {σ : aSg} (hH : HallAt h q σ) (hσ : sgOk c σ) (hc9 : c ≤ 512) (ha : a < q ∨ q + 204 ≤ a) {f : Nat → Int64} (hf : h a = some (.inl (2, 1, .inr (.inl f)))) (x w : Int32) : aMetH G mL_ofSequence [(0, 10, 13, 21), (0, 10, 17, 13)] 13 1 6 [.ref (q), .int (x), .int (w), .ref (a)] h nx (lPo h q a nx cdA (sOfSeq σ x w)) := by
  refine aMetH_of rfl (Nat.le_of_ble_eq_true rfl) ?_
  show aw G mL_ofSequence [(0, 10, 13, 21), (0, 10, 17, 13)] (aRoom 13 1 6) (aEnd G (lPo h q a nx cdA (sOfSeq σ x w)) 1 6) 0 0 h nx 0 [(0, .ref (q)), (1, .int (x)), (2, .int (w)), (3, .ref (a))] []
  refine aw_aload_n dL_ofSequence_0 rfl ?_
  refine aw_ic dL_ofSequence_1 ic_0 ?_
  refine aw_aload_n dL_ofSequence_2 rfl ?_
  refine aw_iload_n dL_ofSequence_3 rfl ?_
  refine aw_iload_n dL_ofSequence_4 rfl ?_
  refine aw_callV (As := [.int (x), .int (w)]) (rest := [.int (nI (0)), .ref (a)]) (p_X6_ofSequence G hH hσ hc9 x w) kX6_ofSequence w_667 hH.1 rfl rfl rfl rfl (Nat.le_of_ble_eq_true rfl) dL_ofSequence_5 ⟨Nat.le_of_ble_eq_true rfl, Nat.le_of_ble_eq_true rfl⟩ ⟨Nat.le_of_ble_eq_true rfl, Nat.le_of_ble_eq_true rfl⟩ (fun v h1 n1 hp hn => ?_) (fun E h1 n1 hp hn => ?_)
  · obtain ⟨-, ho, hr, hH1⟩ := hp
    rcases o_ofSequence σ x w with ⟨x9, hx9⟩ | hx9 | hx9
    · rw [hx9] at hr
      cases hr
      have hf1 := (ho a ha).trans hf
      refine aw_i2l dL_ofSequence_8 ?_
      refine aw_lastoreV hf1 (by omega) (by omega) dL_ofSequence_9 (fun h_1 f_1 o_1 => ?_)
      refine aw_goto (tgt := 21) dL_ofSequence_10 (by decide) ?_
      refine aw_ic dL_ofSequence_21 ic_0 ?_
      exact aw_ireturn dL_ofSequence_22 rfl ⟨by rw [hx9]; rfl, by omega, hH1.keep (fun b h9 h8 => o_1 b (by omega)), fun b h9 h8 => (o_1 b h8).trans (ho b h9), _, f_1, fun v hv => by rw [hx9] at hv; cases hv; simp [vp_updL]⟩ (by omega) (by omega)
    · rw [hx9] at hr; cases hr
    · rw [hx9] at hr; cases hr
  · obtain ⟨-, ho, hr, hH1⟩ := hp
    have hf1 := (ho a ha).trans hf
    rcases o_ofSequence σ x w with ⟨x9, hx9⟩ | hx9 | hx9
    · rw [hx9] at hr; cases hr
    · rw [hx9] at hr; cases hr
      refine awx_catch [] ⟨0, 10, 13, 21⟩ [⟨0, 10, 17, 13⟩] rfl (fun _ h => absurd h List.not_mem_nil) (by decide) (by decide) w_538 w_256 (fun q9 => ?_)
      refine aw_astore (L' := [(4, .ref (q9)), (0, .ref (q)), (1, .int (x)), (2, .int (w)), (3, .ref (a))]) dL_ofSequence_13 (by decide) rfl ?_
      refine aw_ic dL_ofSequence_15 ic_1 ?_
      exact aw_ireturn dL_ofSequence_16 rfl ⟨by rw [hx9]; rfl, by omega, hH1, fun b h9 _ => ho b h9, _, hf1, fun v hv => by rw [hx9] at hv; cases hv⟩ (by omega) (by omega)
    · rw [hx9] at hr; cases hr
      refine awx_catch [⟨0, 10, 13, 21⟩] ⟨0, 10, 17, 13⟩ [] rfl (List.forall_mem_cons.mpr ⟨⟨by decide, xIOB, w_538, by decide +kernel⟩, (fun _ h => absurd h List.not_mem_nil)⟩) (by decide) (by decide) w_508 w_136 (fun q9 => ?_)
      refine aw_astore (L' := [(4, .ref (q9)), (0, .ref (q)), (1, .int (x)), (2, .int (w)), (3, .ref (a))]) dL_ofSequence_17 (by decide) rfl ?_
      refine aw_ic dL_ofSequence_19 ic_2 ?_
      exact aw_ireturn dL_ofSequence_20 rfl ⟨by rw [hx9]; rfl, by omega, hH1, fun b h9 _ => ho b h9, _, hf1, fun v hv => by rw [hx9] at hv; cases hv⟩ (by omega) (by omega)
theorem kL_period : aOkH mL_period [(0, 10, 13, 21), (0, 10, 17, 13)] 4 := ⟨w_670, w_0, by decide +kernel, w_669⟩
set_option maxHeartbeats 4000000 in
set_option maxRecDepth 20000 in
/-- period of the law -/
theorem l_period (G : aG) {h : aH} {nx q a c : Nat} {σ : aSg} (hH : HallAt h q σ) (hσ : sgOk c σ) (hc9 : c ≤ 512) (ha : a < q ∨ q + 204 ≤ a) {f : Nat → Int64} (hf : h a = some (.inl (2, 1, .inr (.inl f)))) (x y : Int32) : aMetH G mL_period [(0, 10, 13, 21), (0, 10, 17, 13)] 13 1 6 [.ref (q), .int (x), .int (y), .ref (a)] h nx (lPo h q a nx cdA (sPeriod σ x y)) := by
  refine aMetH_of rfl (Nat.le_of_ble_eq_true rfl) ?_
  show aw G mL_period [(0, 10, 13, 21), (0, 10, 17, 13)] (aRoom 13 1 6) (aEnd G (lPo h q a nx cdA (sPeriod σ x y)) 1 6) 0 0 h nx 0 [(0, .ref (q)), (1, .int (x)), (2, .int (y)), (3, .ref (a))] []
  refine aw_aload_n dL_period_0 rfl ?_
  refine aw_ic dL_period_1 ic_0 ?_
  refine aw_aload_n dL_period_2 rfl ?_
  refine aw_iload_n dL_period_3 rfl ?_
  refine aw_iload_n dL_period_4 rfl ?_
  refine aw_callV (As := [.int (x), .int (y)]) (rest := [.int (nI (0)), .ref (a)]) (p_X6_period G hH hσ hc9 x y) kX6_period w_671 hH.1 rfl rfl rfl rfl (Nat.le_of_ble_eq_true rfl) dL_period_5 ⟨Nat.le_of_ble_eq_true rfl, Nat.le_of_ble_eq_true rfl⟩ ⟨Nat.le_of_ble_eq_true rfl, Nat.le_of_ble_eq_true rfl⟩ (fun v h1 n1 hp hn => ?_) (fun E h1 n1 hp hn => ?_)
  · obtain ⟨-, ho, hr, hH1⟩ := hp
    rcases o_period σ x y with ⟨x9, hx9⟩ | hx9 | hx9
    · rw [hx9] at hr
      cases hr
      have hf1 := (ho a ha).trans hf
      refine aw_i2l dL_period_8 ?_
      refine aw_lastoreV hf1 (by omega) (by omega) dL_period_9 (fun h_1 f_1 o_1 => ?_)
      refine aw_goto (tgt := 21) dL_period_10 (by decide) ?_
      refine aw_ic dL_period_21 ic_0 ?_
      exact aw_ireturn dL_period_22 rfl ⟨by rw [hx9]; rfl, by omega, hH1.keep (fun b h9 h8 => o_1 b (by omega)), fun b h9 h8 => (o_1 b h8).trans (ho b h9), _, f_1, fun v hv => by rw [hx9] at hv; cases hv; simp [vp_updL]⟩ (by omega) (by omega)
    · rw [hx9] at hr; cases hr
    · rw [hx9] at hr; cases hr
  · obtain ⟨-, ho, hr, hH1⟩ := hp
    have hf1 := (ho a ha).trans hf
    rcases o_period σ x y with ⟨x9, hx9⟩ | hx9 | hx9
    · rw [hx9] at hr; cases hr
    · rw [hx9] at hr; cases hr
      refine awx_catch [] ⟨0, 10, 13, 21⟩ [⟨0, 10, 17, 13⟩] rfl (fun _ h => absurd h List.not_mem_nil) (by decide) (by decide) w_538 w_256 (fun q9 => ?_)
      refine aw_astore (L' := [(4, .ref (q9)), (0, .ref (q)), (1, .int (x)), (2, .int (y)), (3, .ref (a))]) dL_period_13 (by decide) rfl ?_
      refine aw_ic dL_period_15 ic_1 ?_
      exact aw_ireturn dL_period_16 rfl ⟨by rw [hx9]; rfl, by omega, hH1, fun b h9 _ => ho b h9, _, hf1, fun v hv => by rw [hx9] at hv; cases hv⟩ (by omega) (by omega)
    · rw [hx9] at hr; cases hr
      refine awx_catch [⟨0, 10, 13, 21⟩] ⟨0, 10, 17, 13⟩ [] rfl (List.forall_mem_cons.mpr ⟨⟨by decide, xIOB, w_538, by decide +kernel⟩, (fun _ h => absurd h List.not_mem_nil)⟩) (by decide) (by decide) w_508 w_136 (fun q9 => ?_)
      refine aw_astore (L' := [(4, .ref (q9)), (0, .ref (q)), (1, .int (x)), (2, .int (y)), (3, .ref (a))]) dL_period_17 (by decide) rfl ?_
      refine aw_ic dL_period_19 ic_2 ?_
      exact aw_ireturn dL_period_20 rfl ⟨by rw [hx9]; rfl, by omega, hH1, fun b h9 _ => ho b h9, _, hf1, fun v hv => by rw [hx9] at hv; cases hv⟩ (by omega) (by omega)
theorem kL_many : aOkH mL_many [(0, 9, 12, 13)] 3 := ⟨w_674, w_0, by decide +kernel, w_673⟩
set_option maxHeartbeats 4000000 in
set_option maxRecDepth 20000 in
/-- many of the law -/
theorem l_many (G : aG) {h : aH} {nx q a c : Nat} {σ : aSg} (hH : HallAt h q σ) (hσ : sgOk c σ) (hc9 : c ≤ 512) (ha : a < q ∨ q + 204 ≤ a) {f : Nat → Int64} (hf : h a = some (.inl (2, 1, .inr (.inl f)))) (w : Int32) : aMetH G mL_many [(0, 9, 12, 13)] 13 1 6 [.ref (q), .int (w), .ref (a)] h nx (lPo h q a nx cdB (sMany σ w)) := by
  refine aMetH_of rfl (Nat.le_of_ble_eq_true rfl) ?_
  show aw G mL_many [(0, 9, 12, 13)] (aRoom 13 1 6) (aEnd G (lPo h q a nx cdB (sMany σ w)) 1 6) 0 0 h nx 0 [(0, .ref (q)), (1, .int (w)), (2, .ref (a))] []
  refine aw_aload_n dL_many_0 rfl ?_
  refine aw_ic dL_many_1 ic_0 ?_
  refine aw_aload_n dL_many_2 rfl ?_
  refine aw_iload_n dL_many_3 rfl ?_
  refine aw_callV (As := [.int (w)]) (rest := [.int (nI (0)), .ref (a)]) (p_X6_many G hH hσ hc9 w) kX6_many w_675 hH.1 rfl rfl rfl rfl (Nat.le_of_ble_eq_true rfl) dL_many_4 ⟨Nat.le_of_ble_eq_true rfl, Nat.le_of_ble_eq_true rfl⟩ ⟨Nat.le_of_ble_eq_true rfl, Nat.le_of_ble_eq_true rfl⟩ (fun v h1 n1 hp hn => ?_) (fun E h1 n1 hp hn => ?_)
  · obtain ⟨-, ho, hr, hH1⟩ := hp
    rcases o_many σ w with ⟨x9, hx9⟩ | hx9
    · rw [hx9] at hr
      cases hr
      have hf1 := (ho a ha).trans hf
      refine aw_i2l dL_many_7 ?_
      refine aw_lastoreV hf1 (by omega) (by omega) dL_many_8 (fun h_1 f_1 o_1 => ?_)
      refine aw_goto (tgt := 15) dL_many_9 (by decide) ?_
      refine aw_ic dL_many_15 ic_0 ?_
      exact aw_ireturn dL_many_16 rfl ⟨by rw [hx9]; rfl, by omega, hH1.keep (fun b h9 h8 => o_1 b (by omega)), fun b h9 h8 => (o_1 b h8).trans (ho b h9), _, f_1, fun v hv => by rw [hx9] at hv; cases hv; simp [vp_updL]⟩ (by omega) (by omega)
    · rw [hx9] at hr; cases hr
  · obtain ⟨-, ho, hr, hH1⟩ := hp
    have hf1 := (ho a ha).trans hf
    rcases o_many σ w with ⟨x9, hx9⟩ | hx9
    · rw [hx9] at hr; cases hr
    · rw [hx9] at hr; cases hr
      refine awx_catch [] ⟨0, 9, 12, 13⟩ [] rfl (fun _ h => absurd h List.not_mem_nil) (by decide) (by decide) w_508 w_136 (fun q9 => ?_)
      refine aw_astore_n (L' := [(3, .ref (q9)), (0, .ref (q)), (1, .int (w)), (2, .ref (a))]) dL_many_12 (by decide) rfl ?_
      refine aw_ic dL_many_13 ic_1 ?_
      exact aw_ireturn dL_many_14 rfl ⟨by rw [hx9]; rfl, by omega, hH1, fun b h9 _ => ho b h9, _, hf1, fun v hv => by rw [hx9] at hv; cases hv⟩ (by omega) (by omega)
theorem kL_toTop : aOkH mL_toTop [(0, 10, 13, 21)] 4 := ⟨w_678, w_0, by decide +kernel, w_677⟩
set_option maxHeartbeats 4000000 in
set_option maxRecDepth 20000 in
/-- toTop of the law -/
theorem l_toTop (G : aG) {h : aH} {nx q a c : Nat} {σ : aSg} (hH : HallAt h q σ) (hσ : sgOk c σ) (hc9 : c ≤ 512) (ha : a < q ∨ q + 204 ≤ a) {f : Nat → Int64} (hf : h a = some (.inl (2, 1, .inr (.inl f)))) (x p : Int32) : aMetH G mL_toTop [(0, 10, 13, 21)] 13 1 6 [.ref (q), .int (x), .int (p), .ref (a)] h nx (lPo h q a nx cdA (sToTop σ x p)) := by
  refine aMetH_of rfl (Nat.le_of_ble_eq_true rfl) ?_
  show aw G mL_toTop [(0, 10, 13, 21)] (aRoom 13 1 6) (aEnd G (lPo h q a nx cdA (sToTop σ x p)) 1 6) 0 0 h nx 0 [(0, .ref (q)), (1, .int (x)), (2, .int (p)), (3, .ref (a))] []
  refine aw_aload_n dL_toTop_0 rfl ?_
  refine aw_ic dL_toTop_1 ic_0 ?_
  refine aw_aload_n dL_toTop_2 rfl ?_
  refine aw_iload_n dL_toTop_3 rfl ?_
  refine aw_iload_n dL_toTop_4 rfl ?_
  refine aw_callV (As := [.int (x), .int (p)]) (rest := [.int (nI (0)), .ref (a)]) (p_X6_toTop G hH hσ hc9 x p) kX6_toTop w_679 hH.1 rfl rfl rfl rfl (Nat.le_of_ble_eq_true rfl) dL_toTop_5 ⟨Nat.le_of_ble_eq_true rfl, Nat.le_of_ble_eq_true rfl⟩ ⟨Nat.le_of_ble_eq_true rfl, Nat.le_of_ble_eq_true rfl⟩ (fun v h1 n1 hp hn => ?_) (fun E h1 n1 hp hn => ?_)
  · obtain ⟨-, ho, hr, hH1⟩ := hp
    rcases o_toTop σ x p with ⟨x9, hx9⟩ | hx9
    · rw [hx9] at hr
      cases hr
      have hf1 := (ho a ha).trans hf
      refine aw_i2l dL_toTop_8 ?_
      refine aw_lastoreV hf1 (by omega) (by omega) dL_toTop_9 (fun h_1 f_1 o_1 => ?_)
      refine aw_goto (tgt := 17) dL_toTop_10 (by decide) ?_
      refine aw_ic dL_toTop_17 ic_0 ?_
      exact aw_ireturn dL_toTop_18 rfl ⟨by rw [hx9]; rfl, by omega, hH1.keep (fun b h9 h8 => o_1 b (by omega)), fun b h9 h8 => (o_1 b h8).trans (ho b h9), _, f_1, fun v hv => by rw [hx9] at hv; cases hv; simp [vp_updL]⟩ (by omega) (by omega)
    · rw [hx9] at hr; cases hr
  · obtain ⟨-, ho, hr, hH1⟩ := hp
    have hf1 := (ho a ha).trans hf
    rcases o_toTop σ x p with ⟨x9, hx9⟩ | hx9
    · rw [hx9] at hr; cases hr
    · rw [hx9] at hr; cases hr
      refine awx_catch [] ⟨0, 10, 13, 21⟩ [] rfl (fun _ h => absurd h List.not_mem_nil) (by decide) (by decide) w_538 w_256 (fun q9 => ?_)
      refine aw_astore (L' := [(4, .ref (q9)), (0, .ref (q)), (1, .int (x)), (2, .int (p)), (3, .ref (a))]) dL_toTop_13 (by decide) rfl ?_
      refine aw_ic dL_toTop_15 ic_1 ?_
      exact aw_ireturn dL_toTop_16 rfl ⟨by rw [hx9]; rfl, by omega, hH1, fun b h9 _ => ho b h9, _, hf1, fun v hv => by rw [hx9] at hv; cases hv⟩ (by omega) (by omega)
theorem kL_goes : aOkH mL_goes [(0, 14, 17, 21), (0, 14, 21, 13)] 6 := ⟨w_682, w_0, by decide +kernel, w_681⟩
set_option maxHeartbeats 4000000 in
set_option maxRecDepth 20000 in
/-- goes of the law -/
theorem l_goes (G : aG) {h : aH} {nx q a c : Nat} {σ : aSg} (hH : HallAt h q σ) (hσ : sgOk c σ) (hc9 : c ≤ 512) (ha : a < q ∨ q + 204 ≤ a) {f : Nat → Int64} (hf : h a = some (.inl (2, 1, .inr (.inl f)))) (x p k m : Int32) : aMetH G mL_goes [(0, 14, 17, 21), (0, 14, 21, 13)] 13 1 6 [.ref (q), .int (x), .int (p), .int (k), .int (m), .ref (a)] h nx (lPo h q a nx cdA (sGoes σ x p k m)) := by
  refine aMetH_of rfl (Nat.le_of_ble_eq_true rfl) ?_
  show aw G mL_goes [(0, 14, 17, 21), (0, 14, 21, 13)] (aRoom 13 1 6) (aEnd G (lPo h q a nx cdA (sGoes σ x p k m)) 1 6) 0 0 h nx 0 [(0, .ref (q)), (1, .int (x)), (2, .int (p)), (3, .int (k)), (4, .int (m)), (5, .ref (a))] []
  refine aw_aload dL_goes_0 rfl ?_
  refine aw_ic dL_goes_2 ic_0 ?_
  refine aw_aload_n dL_goes_3 rfl ?_
  refine aw_iload_n dL_goes_4 rfl ?_
  refine aw_iload_n dL_goes_5 rfl ?_
  refine aw_iload_n dL_goes_6 rfl ?_
  refine aw_iload dL_goes_7 rfl ?_
  refine aw_callV (As := [.int (x), .int (p), .int (k), .int (m)]) (rest := [.int (nI (0)), .ref (a)]) (p_X6_goes G hH hσ hc9 x p k m) kX6_goes w_683 hH.1 rfl rfl rfl rfl (Nat.le_of_ble_eq_true rfl) dL_goes_9 ⟨Nat.le_of_ble_eq_true rfl, Nat.le_of_ble_eq_true rfl⟩ ⟨Nat.le_of_ble_eq_true rfl, Nat.le_of_ble_eq_true rfl⟩ (fun v h1 n1 hp hn => ?_) (fun E h1 n1 hp hn => ?_)
  · obtain ⟨-, ho, hr, hH1⟩ := hp
    rcases o_goes σ x p k m with ⟨x9, hx9⟩ | hx9 | hx9
    · rw [hx9] at hr
      cases hr
      have hf1 := (ho a ha).trans hf
      refine aw_i2l dL_goes_12 ?_
      refine aw_lastoreV hf1 (by omega) (by omega) dL_goes_13 (fun h_1 f_1 o_1 => ?_)
      refine aw_goto (tgt := 25) dL_goes_14 (by decide) ?_
      refine aw_ic dL_goes_25 ic_0 ?_
      exact aw_ireturn dL_goes_26 rfl ⟨by rw [hx9]; rfl, by omega, hH1.keep (fun b h9 h8 => o_1 b (by omega)), fun b h9 h8 => (o_1 b h8).trans (ho b h9), _, f_1, fun v hv => by rw [hx9] at hv; cases hv; simp [vp_updL]⟩ (by omega) (by omega)
    · rw [hx9] at hr; cases hr
    · rw [hx9] at hr; cases hr
  · obtain ⟨-, ho, hr, hH1⟩ := hp
    have hf1 := (ho a ha).trans hf
    rcases o_goes σ x p k m with ⟨x9, hx9⟩ | hx9 | hx9
    · rw [hx9] at hr; cases hr
    · rw [hx9] at hr; cases hr
      refine awx_catch [] ⟨0, 14, 17, 21⟩ [⟨0, 14, 21, 13⟩] rfl (fun _ h => absurd h List.not_mem_nil) (by decide) (by decide) w_538 w_256 (fun q9 => ?_)
      refine aw_astore (L' := [(6, .ref (q9)), (0, .ref (q)), (1, .int (x)), (2, .int (p)), (3, .int (k)), (4, .int (m)), (5, .ref (a))]) dL_goes_17 (by decide) rfl ?_
      refine aw_ic dL_goes_19 ic_1 ?_
      exact aw_ireturn dL_goes_20 rfl ⟨by rw [hx9]; rfl, by omega, hH1, fun b h9 _ => ho b h9, _, hf1, fun v hv => by rw [hx9] at hv; cases hv⟩ (by omega) (by omega)
    · rw [hx9] at hr; cases hr
      refine awx_catch [⟨0, 14, 17, 21⟩] ⟨0, 14, 21, 13⟩ [] rfl (List.forall_mem_cons.mpr ⟨⟨by decide, xIOB, w_538, by decide +kernel⟩, (fun _ h => absurd h List.not_mem_nil)⟩) (by decide) (by decide) w_508 w_136 (fun q9 => ?_)
      refine aw_astore (L' := [(6, .ref (q9)), (0, .ref (q)), (1, .int (x)), (2, .int (p)), (3, .int (k)), (4, .int (m)), (5, .ref (a))]) dL_goes_21 (by decide) rfl ?_
      refine aw_ic dL_goes_23 ic_2 ?_
      exact aw_ireturn dL_goes_24 rfl ⟨by rw [hx9]; rfl, by omega, hH1, fun b h9 _ => ho b h9, _, hf1, fun v hv => by rw [hx9] at hv; cases hv⟩ (by omega) (by omega)
theorem kL_best : aOkH mL_best [(0, 9, 12, 21)] 3 := ⟨w_689, w_0, by decide +kernel, w_688⟩
set_option maxHeartbeats 4000000 in
set_option maxRecDepth 20000 in
/-- best of the law -/
theorem l_best (G : aG) {h : aH} {nx q a c : Nat} {σ : aSg} (hH : HallAt h q σ) (hσ : sgOk c σ) (hc9 : c ≤ 512) (ha : a < q ∨ q + 204 ≤ a) {f : Nat → Int64} (hf : h a = some (.inl (2, 1, .inr (.inl f)))) (x : Int32) : aMetH G mL_best [(0, 9, 12, 21)] 13 1 6 [.ref (q), .int (x), .ref (a)] h nx (lPo h q a nx cdA (sBest σ x)) := by
  refine aMetH_of rfl (Nat.le_of_ble_eq_true rfl) ?_
  show aw G mL_best [(0, 9, 12, 21)] (aRoom 13 1 6) (aEnd G (lPo h q a nx cdA (sBest σ x)) 1 6) 0 0 h nx 0 [(0, .ref (q)), (1, .int (x)), (2, .ref (a))] []
  refine aw_aload_n dL_best_0 rfl ?_
  refine aw_ic dL_best_1 ic_0 ?_
  refine aw_aload_n dL_best_2 rfl ?_
  refine aw_iload_n dL_best_3 rfl ?_
  refine aw_callV (As := [.int (x)]) (rest := [.int (nI (0)), .ref (a)]) (p_X6_best G hH hσ hc9 x) kX6_best w_690 hH.1 rfl rfl rfl rfl (Nat.le_of_ble_eq_true rfl) dL_best_4 ⟨Nat.le_of_ble_eq_true rfl, Nat.le_of_ble_eq_true rfl⟩ ⟨Nat.le_of_ble_eq_true rfl, Nat.le_of_ble_eq_true rfl⟩ (fun v h1 n1 hp hn => ?_) (fun E h1 n1 hp hn => ?_)
  · obtain ⟨-, ho, hr, hH1⟩ := hp
    rcases o_best σ x with ⟨x9, hx9⟩ | hx9
    · rw [hx9] at hr
      cases hr
      have hf1 := (ho a ha).trans hf
      refine aw_i2l dL_best_7 ?_
      refine aw_lastoreV hf1 (by omega) (by omega) dL_best_8 (fun h_1 f_1 o_1 => ?_)
      refine aw_goto (tgt := 15) dL_best_9 (by decide) ?_
      refine aw_ic dL_best_15 ic_0 ?_
      exact aw_ireturn dL_best_16 rfl ⟨by rw [hx9]; rfl, by omega, hH1.keep (fun b h9 h8 => o_1 b (by omega)), fun b h9 h8 => (o_1 b h8).trans (ho b h9), _, f_1, fun v hv => by rw [hx9] at hv; cases hv; simp [vp_updL]⟩ (by omega) (by omega)
    · rw [hx9] at hr; cases hr
  · obtain ⟨-, ho, hr, hH1⟩ := hp
    have hf1 := (ho a ha).trans hf
    rcases o_best σ x with ⟨x9, hx9⟩ | hx9
    · rw [hx9] at hr; cases hr
    · rw [hx9] at hr; cases hr
      refine awx_catch [] ⟨0, 9, 12, 21⟩ [] rfl (fun _ h => absurd h List.not_mem_nil) (by decide) (by decide) w_538 w_256 (fun q9 => ?_)
      refine aw_astore_n (L' := [(3, .ref (q9)), (0, .ref (q)), (1, .int (x)), (2, .ref (a))]) dL_best_12 (by decide) rfl ?_
      refine aw_ic dL_best_13 ic_1 ?_
      exact aw_ireturn dL_best_14 rfl ⟨by rw [hx9]; rfl, by omega, hH1, fun b h9 _ => ho b h9, _, hf1, fun v hv => by rw [hx9] at hv; cases hv⟩ (by omega) (by omega)
theorem kL_riffle : aOkH mL_riffle [(0, 9, 12, 21)] 3 := ⟨w_693, w_0, by decide +kernel, w_692⟩
set_option maxHeartbeats 4000000 in
set_option maxRecDepth 20000 in
/-- riffle of the law -/
theorem l_riffle (G : aG) {h : aH} {nx q a c : Nat} {σ : aSg} (hH : HallAt h q σ) (hσ : sgOk c σ) (hc9 : c ≤ 512) (ha : a < q ∨ q + 204 ≤ a) {f : Nat → Int64} (hf : h a = some (.inl (2, 1, .inr (.inl f)))) (x : Int32) : aMetH G mL_riffle [(0, 9, 12, 21)] 13 1 6 [.ref (q), .int (x), .ref (a)] h nx (lPo h q a nx cdA (sRiffle σ x)) := by
  refine aMetH_of rfl (Nat.le_of_ble_eq_true rfl) ?_
  show aw G mL_riffle [(0, 9, 12, 21)] (aRoom 13 1 6) (aEnd G (lPo h q a nx cdA (sRiffle σ x)) 1 6) 0 0 h nx 0 [(0, .ref (q)), (1, .int (x)), (2, .ref (a))] []
  refine aw_aload_n dL_riffle_0 rfl ?_
  refine aw_ic dL_riffle_1 ic_0 ?_
  refine aw_aload_n dL_riffle_2 rfl ?_
  refine aw_iload_n dL_riffle_3 rfl ?_
  refine aw_callV (As := [.int (x)]) (rest := [.int (nI (0)), .ref (a)]) (p_X6_riffle G hH hσ hc9 x) kX6_riffle w_694 hH.1 rfl rfl rfl rfl (Nat.le_of_ble_eq_true rfl) dL_riffle_4 ⟨Nat.le_of_ble_eq_true rfl, Nat.le_of_ble_eq_true rfl⟩ ⟨Nat.le_of_ble_eq_true rfl, Nat.le_of_ble_eq_true rfl⟩ (fun v h1 n1 hp hn => ?_) (fun E h1 n1 hp hn => ?_)
  · obtain ⟨-, ho, hr, hH1⟩ := hp
    rcases o_riffle σ x with ⟨x9, hx9⟩ | hx9
    · rw [hx9] at hr
      cases hr
      have hf1 := (ho a ha).trans hf
      refine aw_i2l dL_riffle_7 ?_
      refine aw_lastoreV hf1 (by omega) (by omega) dL_riffle_8 (fun h_1 f_1 o_1 => ?_)
      refine aw_goto (tgt := 15) dL_riffle_9 (by decide) ?_
      refine aw_ic dL_riffle_15 ic_0 ?_
      exact aw_ireturn dL_riffle_16 rfl ⟨by rw [hx9]; rfl, by omega, hH1.keep (fun b h9 h8 => o_1 b (by omega)), fun b h9 h8 => (o_1 b h8).trans (ho b h9), _, f_1, fun v hv => by rw [hx9] at hv; cases hv; simp [vp_updL]⟩ (by omega) (by omega)
    · rw [hx9] at hr; cases hr
  · obtain ⟨-, ho, hr, hH1⟩ := hp
    have hf1 := (ho a ha).trans hf
    rcases o_riffle σ x with ⟨x9, hx9⟩ | hx9
    · rw [hx9] at hr; cases hr
    · rw [hx9] at hr; cases hr
      refine awx_catch [] ⟨0, 9, 12, 21⟩ [] rfl (fun _ h => absurd h List.not_mem_nil) (by decide) (by decide) w_538 w_256 (fun q9 => ?_)
      refine aw_astore_n (L' := [(3, .ref (q9)), (0, .ref (q)), (1, .int (x)), (2, .ref (a))]) dL_riffle_12 (by decide) rfl ?_
      refine aw_ic dL_riffle_13 ic_1 ?_
      exact aw_ireturn dL_riffle_14 rfl ⟨by rw [hx9]; rfl, by omega, hH1, fun b h9 _ => ho b h9, _, hf1, fun v hv => by rw [hx9] at hv; cases hv⟩ (by omega) (by omega)
