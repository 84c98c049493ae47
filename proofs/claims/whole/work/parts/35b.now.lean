set_option maxHeartbeats 4000000 in
set_option maxRecDepth 20000 in
/-- alikeNow(one, other) -/
theorem c_X9_alikeNow (G : aG) {h : aH} {nx dk a b n sc : Nat} {l : List Nat} (hC : CardsAt h dk a b l sc) (hc : cOk n l) (hn : n ≤ 16) {dk2 a2 b2 n2 sc2 : Nat} {l2 : List Nat} (hC2 : CardsAt h dk2 a2 b2 l2 sc2) (hc2 : cOk n2 l2) (hn2 : n2 ≤ 16) : aMet G mX9_alikeNow 1 0 0 [.ref (dk), .ref (dk2)] h nx (pI (nI (alk l l2 (min l.length l2.length))) h nx) := by
  have hC0 := hC
  have hC20 := hC2
  have hln := hc.1
  have hln2 := hc2.1
  have hal : ∀ i, alk l l2 i ≤ i := fun i => by
    induction i with
    | zero => exact Nat.le_refl _
    | succ i ih => simp only [alk]; split <;> omega
  refine aMet_of rfl (Nat.le_of_ble_eq_true rfl) ?_
  show aw G mX9_alikeNow [] (aRoom 1 0 0) (aEnd G (pI (nI (alk l l2 (min l.length l2.length))) h nx) 0 0) 0 0 h nx 0 [(0, .ref (dk)), (1, .ref (dk2))] []
  refine aw_ic dX9_alikeNow_0 ic_0 ?_
  refine aw_istore_n (L' := [(2, .int (nI (0))), (0, .ref (dk)), (1, .ref (dk2))]) dX9_alikeNow_1 (by decide) rfl ?_
  refine aw_ic dX9_alikeNow_2 ic_0 ?_
  refine aw_istore_n (L' := [(3, .int (nI (0))), (2, .int (nI (0))), (0, .ref (dk)), (1, .ref (dk2))]) dX9_alikeNow_3 (by decide) rfl ?_
  have K : ∀ (d : Nat) (c i : Nat), l.length - i < d → (i ≤ l.length ∧ i ≤ l2.length) → (c = alk l l2 i) → aw G mX9_alikeNow [] (aRoom 1 0 0) (aEnd G (pI (nI (alk l l2 (min l.length l2.length))) h nx) 0 0) 0 0 h nx 4 [(0, .ref (dk)), (1, .ref (dk2)), (2, .int (nI (c))), (3, .int (nI (i)))] [] := by
    intro d
    induction d with
    | zero => intro c i hMd; exact absurd hMd (Nat.not_lt_zero _)
    | succ d ih =>
      intro c i hMd hi hs
      have hai := hal i
      have hCk := hC0
      obtain ⟨y_1f, y_1g, y_11, y_12, y_13, y_1v⟩ := hCk
      have hCk2 := hC20
      obtain ⟨y_2f, y_2g, y_21, y_22, y_23, y_2v⟩ := hCk2
      refine aw_iload_n dX9_alikeNow_4 rfl ?_
      refine aw_aload_n dX9_alikeNow_5 rfl ?_
      refine aw_callVR (As := []) (rest := [.int (nI (i))]) (c_X7_size G hC0 hc hn) kX7_size w_868 y_11 rfl rfl rfl rfl (Nat.le_of_ble_eq_true rfl) dX9_alikeNow_6 ⟨Nat.le_of_ble_eq_true rfl, Nat.le_of_ble_eq_true rfl⟩ ⟨Nat.le_of_ble_eq_true rfl, Nat.le_of_ble_eq_true rfl⟩ ?_
      refine aw_icmp_geN (tgt := 64) (by omega) (by omega) dX9_alikeNow_9 (by decide) (fun c1 => ?_) (fun c1 => ?_)
      · skip
        refine aw_iload_n dX9_alikeNow_64 rfl ?_
        exact aw_ireturn dX9_alikeNow_65 rfl ⟨r_n (by rw [hs]; congr 1; omega), rfl, rfl⟩ (Nat.le_of_ble_eq_true rfl) (Nat.le_of_ble_eq_true rfl)
      · skip
        refine aw_iload_n dX9_alikeNow_12 rfl ?_
        refine aw_aload_n dX9_alikeNow_13 rfl ?_
        refine aw_callVR (As := []) (rest := [.int (nI (i))]) (c_X7_size G hC20 hc2 hn2) kX7_size w_868 y_21 rfl rfl rfl rfl (Nat.le_of_ble_eq_true rfl) dX9_alikeNow_14 ⟨Nat.le_of_ble_eq_true rfl, Nat.le_of_ble_eq_true rfl⟩ ⟨Nat.le_of_ble_eq_true rfl, Nat.le_of_ble_eq_true rfl⟩ ?_
        refine aw_icmp_geN (tgt := 64) (by omega) (by omega) dX9_alikeNow_17 (by decide) (fun c2 => ?_) (fun c2 => ?_)
        · skip
          refine aw_iload_n dX9_alikeNow_64 rfl ?_
          exact aw_ireturn dX9_alikeNow_65 rfl ⟨r_n (by rw [hs]; congr 1; omega), rfl, rfl⟩ (Nat.le_of_ble_eq_true rfl) (Nat.le_of_ble_eq_true rfl)
        · skip
          have h1 := hc.2 i c1
          have h2 := hc2.2 i c2
          refine aw_iload_n dX9_alikeNow_20 rfl ?_
          refine aw_aload_n dX9_alikeNow_21 rfl ?_
          refine aw_getN 0 y_11 rfl rfl (by decide) w_774 rfl dX9_alikeNow_22 ?_
          refine aw_iload_n dX9_alikeNow_25 rfl ?_
          refine aw_iaload y_12 (by omega) (by omega) dX9_alikeNow_26 ?_
          refine aw_top (show (y_1f i) = (nI (l.getD i 0 / 2)) from (y_1v i c1).1) ?_
          refine aw_aload_n dX9_alikeNow_27 rfl ?_
          refine aw_getN 0 y_21 rfl rfl (by decide) w_774 rfl dX9_alikeNow_28 ?_
          refine aw_iload_n dX9_alikeNow_31 rfl ?_
          refine aw_iaload y_22 (by omega) (by omega) dX9_alikeNow_32 ?_
          refine aw_top (show (y_2f i) = (nI (l2.getD i 0 / 2)) from (y_2v i c2).1) ?_
          have J : ∀ e : Nat, e ≤ 1 → e = (if l.getD i 0 / 2 = l2.getD i 0 / 2 ∧ decide (l.getD i 0 % 2 = 1) = decide (l2.getD i 0 % 2 = 1) then 1 else 0) → aw G mX9_alikeNow [] (aRoom 1 0 0) (aEnd G (pI (nI (alk l l2 (min l.length l2.length))) h nx) 0 0) 0 0 h nx 56 [(0, .ref (dk)), (1, .ref (dk2)), (2, .int (nI (c))), (3, .int (nI (i)))] [.int (nI (e)), .int (nI (c))] := by
            intro e he he2
            refine aw_iaddN dX9_alikeNow_56 ?_
            refine aw_istore_n (L' := [(2, .int (nI (c + e))), (0, .ref (dk)), (1, .ref (dk2)), (3, .int (nI (i)))]) dX9_alikeNow_57 (by decide) rfl ?_
            refine aw_iincN (k := 1) (L' := [(3, .int (nI (i + 1))), (2, .int (nI (c + e))), (0, .ref (dk)), (1, .ref (dk2))]) dX9_alikeNow_58 (by decide) rfl (by decide) rfl ?_
            refine aw_goto (tgt := 4) dX9_alikeNow_61 (by decide) ?_
            refine aw_sub (L' := [(0, .ref (dk)), (1, .ref (dk2)), (2, .int (nI (c + e))), (3, .int (nI (i + 1)))]) [2, 3, 1, 0] rfl ?_
            exact ih (c + e) (i + 1) (by omega) ⟨by omega, by omega⟩ (by rw [hs, he2]; rfl)
          refine aw_icmp_neN (tgt := 55) (by omega) (by omega) dX9_alikeNow_33 (by decide) (fun c3 => ?_) (fun c3 => ?_)
          · skip
            refine aw_ic dX9_alikeNow_55 ic_0 ?_
            exact J 0 (by omega) (by rw [if_neg (fun q => c3 q.1)])
          · skip
            have hb : ∀ z1 z2 : Bool, z1.toNat = z2.toNat ↔ z1 = z2 := by decide
            have hbt : ∀ z : Bool, z.toNat < 2 := by decide
            have hb1 := hbt (decide (l.getD i 0 % 2 = 1))
            have hb2 := hbt (decide (l2.getD i 0 % 2 = 1))
            refine aw_aload_n dX9_alikeNow_36 rfl ?_
            refine aw_getN 1 y_11 rfl rfl (by decide) w_776 rfl dX9_alikeNow_37 ?_
            refine aw_iload_n dX9_alikeNow_40 rfl ?_
            refine aw_zaload y_13 (by omega) (by omega) dX9_alikeNow_41 ?_
            refine aw_top (show (y_1g i) = (bI (decide (l.getD i 0 % 2 = 1))) from (y_1v i c1).2) ?_
            refine aw_aload_n dX9_alikeNow_42 rfl ?_
            refine aw_getN 1 y_21 rfl rfl (by decide) w_776 rfl dX9_alikeNow_43 ?_
            refine aw_iload_n dX9_alikeNow_46 rfl ?_
            refine aw_zaload y_23 (by omega) (by omega) dX9_alikeNow_47 ?_
            refine aw_top (show (y_2g i) = (bI (decide (l2.getD i 0 % 2 = 1))) from (y_2v i c2).2) ?_
            refine aw_icmp_neN (tgt := 55) (by omega) (by omega) dX9_alikeNow_48 (by decide) (fun c4 => ?_) (fun c4 => ?_)
            · skip
              refine aw_ic dX9_alikeNow_55 ic_0 ?_
              exact J 0 (by omega) (by rw [if_neg (fun q => c4 ((hb _ _).mpr q.2))])
            · skip
              refine aw_ic dX9_alikeNow_51 ic_1 ?_
              refine aw_goto (tgt := 56) dX9_alikeNow_52 (by decide) ?_
              exact J 1 (by omega) (by rw [if_pos ⟨c3, (hb _ _).mp c4⟩])
  refine aw_sub (L' := [(0, .ref (dk)), (1, .ref (dk2)), (2, .int (nI (0))), (3, .int (nI (0)))]) [2, 3, 1, 0] rfl ?_
  exact K (l.length + 1) 0 0 (by omega) ⟨Nat.zero_le _, Nat.zero_le _⟩ rfl
set_option maxHeartbeats 4000000 in
set_option maxRecDepth 20000 in
/-- toTopNow(deck, j) -/
theorem c_X9_toTopNow (G : aG) {h : aH} {nx dk a b n sc : Nat} {l : List Nat} (hC : CardsAt h dk a b l sc) (hc : cOk n l) (hn : n ≤ 16) (h2 : 2 ≤ n) {j : Nat} (hj : j < l.length) : aMet G mX9_toTopNow 1 0 0 [.ref (dk), .int (nI (j))] h nx (pI (toT l j) h nx) := by
  have hC0 := hC
  have hln := hc.1
  refine aMet_of rfl (Nat.le_of_ble_eq_true rfl) ?_
  show aw G mX9_toTopNow [] (aRoom 1 0 0) (aEnd G (pI (toT l j) h nx) 0 0) 0 0 h nx 0 [(0, .ref (dk)), (1, .int (nI (j)))] []
  obtain ⟨y_1f, y_1g, y_11, y_12, y_13, y_1v⟩ := hC
  refine aw_aload_n dX9_toTopNow_0 rfl ?_
  refine aw_callVR (As := []) (rest := []) (c_X7_size G hC0 hc hn) kX7_size w_868 y_11 rfl rfl rfl rfl (Nat.le_of_ble_eq_true rfl) dX9_toTopNow_1 ⟨Nat.le_of_ble_eq_true rfl, Nat.le_of_ble_eq_true rfl⟩ ⟨Nat.le_of_ble_eq_true rfl, Nat.le_of_ble_eq_true rfl⟩ ?_
  refine aw_istore_n (L' := [(2, .int (nI (l.length))), (0, .ref (dk)), (1, .int (nI (j)))]) dX9_toTopNow_4 (by decide) rfl ?_
  refine aw_iload_n dX9_toTopNow_5 rfl ?_
  refine aw_ic dX9_toTopNow_6 ic_2 ?_
  refine aw_iremN (by omega) (by omega) (by omega) dX9_toTopNow_7 ?_
  refine aw_ic dX9_toTopNow_8 ic_1 ?_
  have hm2 := Nat.mod_lt l.length (show 0 < 2 by decide)
  refine aw_icmp_neN (tgt := 14) (by omega) (by omega) dX9_toTopNow_9 (by decide) (fun c1 => ?_) (fun c1 => ?_)
  · skip
    have hev : l.length % 2 = 0 := by omega
    have hT : ttM l.length 18 0 (2 ^ j) (2 ^ j) = some (toT l j) := by unfold toT; rw [if_neg (by omega)]; exact ttM_all _ (by omega) (by omega) hev j hj
    refine aw_ic dX9_toTopNow_14 ic_1 ?_
    refine aw_iload_n dX9_toTopNow_15 rfl ?_
    refine aw_ishl dX9_toTopNow_16 ?_
    refine aw_top (show ((nI (1)) <<< ((nI (j)) &&& 31)) = (nI (2 ^ j)) from n_shl1 j (by omega)) ?_
    refine aw_istore_n (L' := [(3, .int (nI (2 ^ j))), (2, .int (nI (l.length))), (0, .ref (dk)), (1, .int (nI (j)))]) dX9_toTopNow_17 (by decide) rfl ?_
    refine aw_iload_n dX9_toTopNow_18 rfl ?_
    refine aw_istore (L' := [(4, .int (nI (2 ^ j))), (3, .int (nI (2 ^ j))), (2, .int (nI (l.length))), (0, .ref (dk)), (1, .int (nI (j)))]) dX9_toTopNow_19 (by decide) rfl ?_
    refine aw_ic dX9_toTopNow_21 ic_0 ?_
    refine aw_istore (L' := [(5, .int (nI (0))), (4, .int (nI (2 ^ j))), (3, .int (nI (2 ^ j))), (2, .int (nI (l.length))), (0, .ref (dk)), (1, .int (nI (j)))]) dX9_toTopNow_22 (by decide) rfl ?_
    have K : ∀ (d : Nat) (f t x s : Nat), f < d → (x < 2 ^ 16 ∧ s < 2 ^ 16 ∧ t + f ≤ 18) → (ttM l.length f t x s = some (toT l j)) → aw G mX9_toTopNow [] (aRoom 1 0 0) (aEnd G (pI (toT l j) h nx) 0 0) 0 0 h nx 24 [(0, .ref (dk)), (1, .int (nI (j))), (2, .int (nI (l.length))), (3, .int (nI (x))), (4, .int (nI (s))), (5, .int (nI (t)))] [] := by
      intro d
      induction d with
      | zero => intro f t x s hMd; exact absurd hMd (Nat.not_lt_zero _)
      | succ d ih =>
        intro f t x s hMd hx hE
        obtain ⟨f, rfl⟩ : ∃ f2, f = f2 + 1 := by
          cases f with
          | zero => exact absurd hE (by simp [ttM])
          | succ f => exact ⟨f, rfl⟩
        unfold ttM at hE
        refine aw_iload_n dX9_toTopNow_24 rfl ?_
        refine aw_if_eqN (tgt := 154) (by omega) dX9_toTopNow_25 (by decide) (fun c2 => ?_) (fun c2 => ?_)
        · skip
          rw [if_pos c2] at hE
          have hE2 : -1 = toT l j := Option.some.inj hE
          refine aw_iconst dX9_toTopNow_154 ic_m1 ?_
          exact aw_ireturn dX9_toTopNow_155 rfl ⟨r_i hE2, rfl, rfl⟩ (Nat.le_of_ble_eq_true rfl) (Nat.le_of_ble_eq_true rfl)
        · skip
          rw [if_neg (show ¬ x = 0 by omega)] at hE
          have hxm := Nat.mod_lt x (show 0 < 2 by decide)
          refine aw_iload_n dX9_toTopNow_28 rfl ?_
          refine aw_ic dX9_toTopNow_29 ic_1 ?_
          refine aw_iand dX9_toTopNow_30 ?_
          refine aw_top (show ((nI (x)) &&& (nI (1))) = (nI (x % 2)) from n_odd (by omega)) ?_
          refine aw_ic dX9_toTopNow_31 ic_1 ?_
          refine aw_icmp_neN (tgt := 38) (by omega) (by omega) dX9_toTopNow_32 (by decide) (fun c3 => ?_) (fun c3 => ?_)
          · skip
            rw [if_neg (by omega)] at hE
            refine aw_ic dX9_toTopNow_38 ic_0 ?_
            refine aw_istore (L' := [(6, .int (nI (0))), (0, .ref (dk)), (1, .int (nI (j))), (2, .int (nI (l.length))), (3, .int (nI (x))), (4, .int (nI (s))), (5, .int (nI (t)))]) dX9_toTopNow_39 (by decide) rfl ?_
            refine aw_ic dX9_toTopNow_41 ic_0 ?_
            refine aw_istore (L' := [(7, .int (nI (0))), (6, .int (nI (0))), (0, .ref (dk)), (1, .int (nI (j))), (2, .int (nI (l.length))), (3, .int (nI (x))), (4, .int (nI (s))), (5, .int (nI (t)))]) dX9_toTopNow_42 (by decide) rfl ?_
            have ihO := ih
            have K2 : ∀ (d : Nat) (y k : Nat), l.length - k < d → (k ≤ l.length) → (y = stpM l.length x k) → aw G mX9_toTopNow [] (aRoom 1 0 0) (aEnd G (pI (toT l j) h nx) 0 0) 0 0 h nx 44 [(0, .ref (dk)), (1, .int (nI (j))), (2, .int (nI (l.length))), (3, .int (nI (x))), (4, .int (nI (s))), (5, .int (nI (t))), (6, .int (nI (y))), (7, .int (nI (k)))] [] := by
              intro d
              induction d with
              | zero => intro y k hMd; exact absurd hMd (Nat.not_lt_zero _)
              | succ d ih =>
                intro y k hMd hk hy
                have hyl := stpM_lt (a := x) (show l.length ≤ 16 by omega) hev k hk
                refine aw_iload dX9_toTopNow_44 rfl ?_
                refine aw_iload_n dX9_toTopNow_46 rfl ?_
                refine aw_icmp_geN (tgt := 133) (by omega) (by omega) dX9_toTopNow_47 (by decide) (fun c4 => ?_) (fun c4 => ?_)
                · skip
                  have ek : k = l.length := by omega
                  rw [← hy] at hyl
                  rw [ek] at hy
                  refine aw_iload dX9_toTopNow_133 rfl ?_
                  refine aw_iload dX9_toTopNow_135 rfl ?_
                  refine aw_iconst dX9_toTopNow_137 ic_m1 ?_
                  refine aw_ixor dX9_toTopNow_138 ?_
                  refine aw_iand dX9_toTopNow_139 ?_
                  refine aw_top (show ((nI (y)) &&& ((nI (s)) ^^^ (-1))) = (nI (y &&& (65535 ^^^ s))) from n_andn hyl) ?_
                  refine aw_istore_n (L' := [(3, .int (nI (y &&& (65535 ^^^ s)))), (0, .ref (dk)), (1, .int (nI (j))), (2, .int (nI (l.length))), (4, .int (nI (s))), (5, .int (nI (t))), (6, .int (nI (y))), (7, .int (nI (k)))]) dX9_toTopNow_140 (by decide) rfl ?_
                  refine aw_iload dX9_toTopNow_141 rfl ?_
                  refine aw_iload dX9_toTopNow_143 rfl ?_
                  refine aw_ior dX9_toTopNow_145 ?_
                  refine aw_top (show ((nI (s)) ||| (nI (y))) = (nI (s ||| y)) from n_or _ _) ?_
                  refine aw_istore (L' := [(4, .int (nI (s ||| y))), (3, .int (nI (y &&& (65535 ^^^ s)))), (0, .ref (dk)), (1, .int (nI (j))), (2, .int (nI (l.length))), (5, .int (nI (t))), (6, .int (nI (y))), (7, .int (nI (k)))]) dX9_toTopNow_146 (by decide) rfl ?_
                  refine aw_iincN (k := 1) (L' := [(5, .int (nI (t + 1))), (4, .int (nI (s ||| y))), (3, .int (nI (y &&& (65535 ^^^ s)))), (0, .ref (dk)), (1, .int (nI (j))), (2, .int (nI (l.length))), (6, .int (nI (y))), (7, .int (nI (k)))]) dX9_toTopNow_148 (by decide) rfl (by decide) rfl ?_
                  refine aw_goto (tgt := 24) dX9_toTopNow_151 (by decide) ?_
                  refine aw_sub (L' := [(0, .ref (dk)), (1, .int (nI (j))), (2, .int (nI (l.length))), (3, .int (nI (y &&& (65535 ^^^ s)))), (4, .int (nI (s ||| y))), (5, .int (nI (t + 1)))]) [3, 4, 5, 2, 1, 0] rfl ?_
                  exact ihO f (t + 1) (y &&& (65535 ^^^ s)) (s ||| y) (by omega) ⟨Nat.lt_of_le_of_lt Nat.and_le_left hyl, Nat.or_lt_two_pow hx.2.1 hyl, by omega⟩ (by rw [hy]; exact hE)
                · skip
                  have htb := tb_div x k
                  have hml := Nat.mod_lt (x / 2 ^ k) (show 0 < 2 by decide)
                  refine aw_iload_n dX9_toTopNow_50 rfl ?_
                  refine aw_iload dX9_toTopNow_51 rfl ?_
                  refine aw_ishr dX9_toTopNow_53 ?_
                  refine aw_top (n_shr (by omega) k (by omega)) ?_
                  refine aw_ic dX9_toTopNow_54 ic_1 ?_
                  refine aw_iand dX9_toTopNow_55 ?_
                  refine aw_top (show ((nI (x / 2 ^ k)) &&& (nI (1))) = (nI (x / 2 ^ k % 2)) from n_odd (Nat.lt_of_le_of_lt (Nat.div_le_self _ _) (by omega))) ?_
                  refine aw_if_neN (tgt := 62) (by omega) dX9_toTopNow_56 (by decide) (fun c5 => ?_) (fun c5 => ?_)
                  · skip
                    have hb : x.testBit k = true := by rw [htb]; simp; omega
                    refine aw_iload dX9_toTopNow_62 rfl ?_
                    refine aw_iload_n dX9_toTopNow_64 rfl ?_
                    refine aw_ic dX9_toTopNow_65 ic_2 ?_
                    refine aw_idivN (by omega) (by omega) (by omega) dX9_toTopNow_66 ?_
                    refine aw_icmp_geN (tgt := 74) (by omega) (by omega) dX9_toTopNow_67 (by decide) (fun c6 => ?_) (fun c6 => ?_)
                    · skip
                      refine aw_ic dX9_toTopNow_74 ic_0 ?_
                      refine aw_istore (L' := [(8, .int (nI (0))), (0, .ref (dk)), (1, .int (nI (j))), (2, .int (nI (l.length))), (3, .int (nI (x))), (4, .int (nI (s))), (5, .int (nI (t))), (6, .int (nI (y))), (7, .int (nI (k)))]) dX9_toTopNow_75 (by decide) rfl ?_
                      refine aw_iload dX9_toTopNow_77 rfl ?_
                      refine aw_if_eqN (tgt := 89) (by omega) dX9_toTopNow_79 (by decide) (fun c7 => ?_) (fun c7 => absurd c7 (by omega))
                      refine aw_ic dX9_toTopNow_89 ic_2 ?_
                      refine aw_iload dX9_toTopNow_90 rfl ?_
                      refine aw_imulN dX9_toTopNow_92 ?_
                      refine aw_iload_n dX9_toTopNow_93 rfl ?_
                      refine aw_isubN (by omega) dX9_toTopNow_94 ?_
                      refine aw_ic dX9_toTopNow_95 ic_1 ?_
                      refine aw_iaddN dX9_toTopNow_96 ?_
                      refine aw_istore (L' := [(9, .int (nI (((2 * k) - l.length) + 1))), (8, .int (nI (0))), (0, .ref (dk)), (1, .int (nI (j))), (2, .int (nI (l.length))), (3, .int (nI (x))), (4, .int (nI (s))), (5, .int (nI (t))), (6, .int (nI (y))), (7, .int (nI (k)))]) dX9_toTopNow_97 (by decide) rfl ?_
                      refine aw_iload dX9_toTopNow_99 rfl ?_
                      refine aw_ic dX9_toTopNow_101 ic_1 ?_
                      refine aw_iload dX9_toTopNow_102 rfl ?_
                      refine aw_ishl dX9_toTopNow_104 ?_
                      refine aw_top (show ((nI (1)) <<< ((nI (((2 * k) - l.length) + 1)) &&& 31)) = (nI (2 ^ (2 * k - l.length + 1))) from n_shl1 (2 * k - l.length + 1) (by omega)) ?_
                      refine aw_ic dX9_toTopNow_105 ic_1 ?_
                      refine aw_iload dX9_toTopNow_106 rfl ?_
                      refine aw_if_eqN (tgt := 118) (by omega) dX9_toTopNow_108 (by decide) (fun c8 => ?_) (fun c8 => absurd c8 (by omega))
                      refine aw_iload dX9_toTopNow_118 rfl ?_
                      refine aw_ic dX9_toTopNow_120 ic_1 ?_
                      refine aw_isubN (by omega) dX9_toTopNow_121 ?_
                      refine aw_ishl dX9_toTopNow_122 ?_
                      refine aw_top (show ((nI (1)) <<< ((nI ((((2 * k) - l.length) + 1) - 1)) &&& 31)) = (nI (2 ^ (2 * k - l.length + 1 - 1))) from n_shl1 (2 * k - l.length + 1 - 1) (by omega)) ?_
                      refine aw_ior dX9_toTopNow_123 ?_
                      refine aw_top (show ((nI (2 ^ (2 * k - l.length + 1))) ||| (nI (2 ^ (2 * k - l.length + 1 - 1)))) = (nI (2 ^ (2 * k - l.length + 1) ||| 2 ^ (2 * k - l.length + 1 - 1))) from n_or _ _) ?_
                      refine aw_ior dX9_toTopNow_124 ?_
                      refine aw_top (show ((nI (y)) ||| (nI (2 ^ (2 * k - l.length + 1) ||| 2 ^ (2 * k - l.length + 1 - 1)))) = (nI (y ||| (2 ^ (2 * k - l.length + 1) ||| 2 ^ (2 * k - l.length + 1 - 1)))) from n_or _ _) ?_
                      refine aw_istore (L' := [(6, .int (nI (y ||| (2 ^ (2 * k - l.length + 1) ||| 2 ^ (2 * k - l.length + 1 - 1))))), (9, .int (nI (((2 * k) - l.length) + 1))), (8, .int (nI (0))), (0, .ref (dk)), (1, .int (nI (j))), (2, .int (nI (l.length))), (3, .int (nI (x))), (4, .int (nI (s))), (5, .int (nI (t))), (7, .int (nI (k)))]) dX9_toTopNow_125 (by decide) rfl ?_
                      refine aw_iincN (k := 1) (L' := [(7, .int (nI (k + 1))), (6, .int (nI (y ||| (2 ^ (2 * k - l.length + 1) ||| 2 ^ (2 * k - l.length + 1 - 1))))), (9, .int (nI (((2 * k) - l.length) + 1))), (8, .int (nI (0))), (0, .ref (dk)), (1, .int (nI (j))), (2, .int (nI (l.length))), (3, .int (nI (x))), (4, .int (nI (s))), (5, .int (nI (t)))]) dX9_toTopNow_127 (by decide) rfl (by decide) rfl ?_
                      refine aw_goto (tgt := 44) dX9_toTopNow_130 (by decide) ?_
                      refine aw_sub (L' := [(0, .ref (dk)), (1, .int (nI (j))), (2, .int (nI (l.length))), (3, .int (nI (x))), (4, .int (nI (s))), (5, .int (nI (t))), (6, .int (nI (y ||| (2 ^ (2 * k - l.length + 1) ||| 2 ^ (2 * k - l.length + 1 - 1))))), (7, .int (nI (k + 1)))]) [4, 5, 6, 7, 8, 9, 1, 0] rfl ?_
                      exact ih (y ||| (2 ^ (2 * k - l.length + 1) ||| 2 ^ (2 * k - l.length + 1 - 1))) (k + 1) (by omega) (by omega) (by rw [hy]; simp only [stpM]; rw [if_pos hb, if_neg (show ¬ k < l.length / 2 by omega), if_neg (show ¬ k < l.length / 2 by omega)])
                    · skip
                      refine aw_ic dX9_toTopNow_70 ic_1 ?_
                      refine aw_goto (tgt := 75) dX9_toTopNow_71 (by decide) ?_
                      refine aw_istore (L' := [(8, .int (nI (1))), (0, .ref (dk)), (1, .int (nI (j))), (2, .int (nI (l.length))), (3, .int (nI (x))), (4, .int (nI (s))), (5, .int (nI (t))), (6, .int (nI (y))), (7, .int (nI (k)))]) dX9_toTopNow_75 (by decide) rfl ?_
                      refine aw_iload dX9_toTopNow_77 rfl ?_
                      refine aw_if_eqN (tgt := 89) (by omega) dX9_toTopNow_79 (by decide) (fun c7 => absurd c7 (by omega)) (fun c7 => ?_)
                      refine aw_ic dX9_toTopNow_82 ic_2 ?_
                      refine aw_iload dX9_toTopNow_83 rfl ?_
                      refine aw_imulN dX9_toTopNow_85 ?_
                      refine aw_goto (tgt := 97) dX9_toTopNow_86 (by decide) ?_
                      refine aw_istore (L' := [(9, .int (nI (2 * k))), (8, .int (nI (1))), (0, .ref (dk)), (1, .int (nI (j))), (2, .int (nI (l.length))), (3, .int (nI (x))), (4, .int (nI (s))), (5, .int (nI (t))), (6, .int (nI (y))), (7, .int (nI (k)))]) dX9_toTopNow_97 (by decide) rfl ?_
                      refine aw_iload dX9_toTopNow_99 rfl ?_
                      refine aw_ic dX9_toTopNow_101 ic_1 ?_
                      refine aw_iload dX9_toTopNow_102 rfl ?_
                      refine aw_ishl dX9_toTopNow_104 ?_
                      refine aw_top (show ((nI (1)) <<< ((nI (2 * k)) &&& 31)) = (nI (2 ^ (2 * k))) from n_shl1 (2 * k) (by omega)) ?_
                      refine aw_ic dX9_toTopNow_105 ic_1 ?_
                      refine aw_iload dX9_toTopNow_106 rfl ?_
                      refine aw_if_eqN (tgt := 118) (by omega) dX9_toTopNow_108 (by decide) (fun c8 => absurd c8 (by omega)) (fun c8 => ?_)
                      refine aw_iload dX9_toTopNow_111 rfl ?_
                      refine aw_ic dX9_toTopNow_113 ic_1 ?_
                      refine aw_iaddN dX9_toTopNow_114 ?_
                      refine aw_goto (tgt := 122) dX9_toTopNow_115 (by decide) ?_
                      refine aw_ishl dX9_toTopNow_122 ?_
                      refine aw_top (show ((nI (1)) <<< ((nI ((2 * k) + 1)) &&& 31)) = (nI (2 ^ (2 * k + 1))) from n_shl1 (2 * k + 1) (by omega)) ?_
                      refine aw_ior dX9_toTopNow_123 ?_
                      refine aw_top (show ((nI (2 ^ (2 * k))) ||| (nI (2 ^ (2 * k + 1)))) = (nI (2 ^ (2 * k) ||| 2 ^ (2 * k + 1))) from n_or _ _) ?_
                      refine aw_ior dX9_toTopNow_124 ?_
                      refine aw_top (show ((nI (y)) ||| (nI (2 ^ (2 * k) ||| 2 ^ (2 * k + 1)))) = (nI (y ||| (2 ^ (2 * k) ||| 2 ^ (2 * k + 1)))) from n_or _ _) ?_
                      refine aw_istore (L' := [(6, .int (nI (y ||| (2 ^ (2 * k) ||| 2 ^ (2 * k + 1))))), (9, .int (nI (2 * k))), (8, .int (nI (1))), (0, .ref (dk)), (1, .int (nI (j))), (2, .int (nI (l.length))), (3, .int (nI (x))), (4, .int (nI (s))), (5, .int (nI (t))), (7, .int (nI (k)))]) dX9_toTopNow_125 (by decide) rfl ?_
                      refine aw_iincN (k := 1) (L' := [(7, .int (nI (k + 1))), (6, .int (nI (y ||| (2 ^ (2 * k) ||| 2 ^ (2 * k + 1))))), (9, .int (nI (2 * k))), (8, .int (nI (1))), (0, .ref (dk)), (1, .int (nI (j))), (2, .int (nI (l.length))), (3, .int (nI (x))), (4, .int (nI (s))), (5, .int (nI (t)))]) dX9_toTopNow_127 (by decide) rfl (by decide) rfl ?_
                      refine aw_goto (tgt := 44) dX9_toTopNow_130 (by decide) ?_
                      refine aw_sub (L' := [(0, .ref (dk)), (1, .int (nI (j))), (2, .int (nI (l.length))), (3, .int (nI (x))), (4, .int (nI (s))), (5, .int (nI (t))), (6, .int (nI (y ||| (2 ^ (2 * k) ||| 2 ^ (2 * k + 1))))), (7, .int (nI (k + 1)))]) [4, 5, 6, 7, 8, 9, 1, 0] rfl ?_
                      exact ih (y ||| (2 ^ (2 * k) ||| 2 ^ (2 * k + 1))) (k + 1) (by omega) (by omega) (by rw [hy]; simp only [stpM]; rw [if_pos hb, if_pos (show k < l.length / 2 by omega), if_pos (show k < l.length / 2 by omega)])
                  · skip
                    have hb : x.testBit k = false := by rw [htb]; simp; omega
                    refine aw_goto (tgt := 127) dX9_toTopNow_59 (by decide) ?_
                    refine aw_iincN (k := 1) (L' := [(7, .int (nI (k + 1))), (0, .ref (dk)), (1, .int (nI (j))), (2, .int (nI (l.length))), (3, .int (nI (x))), (4, .int (nI (s))), (5, .int (nI (t))), (6, .int (nI (y)))]) dX9_toTopNow_127 (by decide) rfl (by decide) rfl ?_
                    refine aw_goto (tgt := 44) dX9_toTopNow_130 (by decide) ?_
                    refine aw_sub (L' := [(0, .ref (dk)), (1, .int (nI (j))), (2, .int (nI (l.length))), (3, .int (nI (x))), (4, .int (nI (s))), (5, .int (nI (t))), (6, .int (nI (y))), (7, .int (nI (k + 1)))]) [1, 2, 3, 4, 5, 6, 7, 0] rfl ?_
                    exact ih y (k + 1) (by omega) (by omega) (by rw [hy]; simp only [stpM]; rw [if_neg (by rw [hb]; decide)])
            refine aw_sub (L' := [(0, .ref (dk)), (1, .int (nI (j))), (2, .int (nI (l.length))), (3, .int (nI (x))), (4, .int (nI (s))), (5, .int (nI (t))), (6, .int (nI (0))), (7, .int (nI (0)))]) [2, 3, 4, 5, 6, 7, 1, 0] rfl ?_
            exact K2 (l.length + 1) 0 0 (by omega) (Nat.zero_le _) rfl
          · skip
            rw [if_pos (by omega)] at hE
            have hE2 : nI t = toT l j := Option.some.inj hE
            refine aw_iload dX9_toTopNow_35 rfl ?_
            exact aw_ireturn dX9_toTopNow_37 rfl ⟨r_i hE2, rfl, rfl⟩ (Nat.le_of_ble_eq_true rfl) (Nat.le_of_ble_eq_true rfl)
    have hj2 : 2 ^ j < 2 ^ 16 := Nat.pow_lt_pow_right (by decide) (by omega)
    refine aw_sub (L' := [(0, .ref (dk)), (1, .int (nI (j))), (2, .int (nI (l.length))), (3, .int (nI (2 ^ j))), (4, .int (nI (2 ^ j))), (5, .int (nI (0)))]) [4, 5, 3, 2, 1, 0] rfl ?_
    exact K 19 18 0 (2 ^ j) (2 ^ j) (by omega) ⟨hj2, hj2, by omega⟩ hT
  · skip
    refine aw_iconst dX9_toTopNow_12 ic_m1 ?_
    exact aw_ireturn dX9_toTopNow_13 rfl ⟨r_i (by unfold toT; rw [if_pos (by omega)]), rfl, rfl⟩ (Nat.le_of_ble_eq_true rfl) (Nat.le_of_ble_eq_true rfl)
set_option maxHeartbeats 4000000 in
set_option maxRecDepth 20000 in
/-- riffleNow(deck) -/
theorem c_X9_riffleNow (G : aG) {h : aH} {nx dk a b n sc : Nat} {l : List Nat} (hC : CardsAt h dk a b l sc) (hc : cOk n l) (hn : n ≤ 16) (ha : cAll n l) (h0 : 0 < n) : aMet G mX9_riffleNow 2 0 0 [.ref (dk)] h nx (pI (rifM l n) h nx) := by
  have hC0 := hC
  have hln := hc.1
  have hrl := runs_le (l := l) (n := n)
  have hr1 : runs l n = 1 + ct (fun i => decide (ixOf l (i + 1) < ixOf l i)) (n - 1) := rfl
  refine aMet_of rfl (Nat.le_of_ble_eq_true rfl) ?_
  show aw G mX9_riffleNow [] (aRoom 2 0 0) (aEnd G (pI (rifM l n) h nx) 0 0) 0 0 h nx 0 [(0, .ref (dk))] []
  obtain ⟨y_1f, y_1g, y_11, y_12, y_13, y_1v⟩ := hC
  refine aw_aload_n dX9_riffleNow_0 rfl ?_
  refine aw_callVR (As := []) (rest := []) (c_X7_runs G hC0 hc hn ha h0) kX7_runs w_1054 y_11 rfl rfl rfl rfl (Nat.le_of_ble_eq_true rfl) dX9_riffleNow_1 ⟨Nat.le_of_ble_eq_true rfl, Nat.le_of_ble_eq_true rfl⟩ ⟨Nat.le_of_ble_eq_true rfl, Nat.le_of_ble_eq_true rfl⟩ ?_
  refine aw_istore_n (L' := [(1, .int (nI (runs l n))), (0, .ref (dk))]) dX9_riffleNow_4 (by decide) rfl ?_
  refine aw_iload_n dX9_riffleNow_5 rfl ?_
  refine aw_ic dX9_riffleNow_6 ic_2 ?_
  refine aw_icmp_leN (tgt := 12) (by omega) (by omega) dX9_riffleNow_7 (by decide) (fun c1 => ?_) (fun c1 => ?_)
  · skip
    refine aw_iload_n dX9_riffleNow_12 rfl ?_
    refine aw_ic dX9_riffleNow_13 ic_1 ?_
    refine aw_icmp_neN (tgt := 19) (by omega) (by omega) dX9_riffleNow_14 (by decide) (fun c2 => ?_) (fun c2 => ?_)
    · skip
      have hr2 : runs l n = 2 := by omega
      obtain ⟨dd, hd1, hd2⟩ := ct_pos (p := (fun i => decide (ixOf l (i + 1) < ixOf l i))) (n := n - 1) (by omega)
      refine aw_ic dX9_riffleNow_19 ic_1 ?_
      refine aw_istore_n (L' := [(2, .int (nI (1))), (1, .int (nI (runs l n))), (0, .ref (dk))]) dX9_riffleNow_20 (by decide) rfl ?_
      have K : ∀ (d : Nat) (i : Nat), n - i < d → (1 ≤ i ∧ i < n) → (∀ k, k < i - 1 → (fun i => decide (ixOf l (i + 1) < ixOf l i)) k = false) → aw G mX9_riffleNow [] (aRoom 2 0 0) (aEnd G (pI (rifM l n) h nx) 0 0) 0 0 h nx 21 [(0, .ref (dk)), (1, .int (nI (runs l n))), (2, .int (nI (i)))] [] := by
        intro d
        induction d with
        | zero => intro i hMd; exact absurd hMd (Nat.not_lt_zero _)
        | succ d ih =>
          intro i hMd hi hno
          have g1 := ixOf_at ha (x := i) hi.2
          have g2 := ixOf_at ha (x := i - 1) (by omega)
          refine aw_aload_n dX9_riffleNow_21 rfl ?_
          refine aw_iload_n dX9_riffleNow_22 rfl ?_
          refine aw_callVR (As := [.int (nI (i))]) (rest := []) (c_X7_find G hC0 hc hn ⟨_, g1⟩) kX7_find w_1024 y_11 rfl rfl rfl rfl (Nat.le_of_ble_eq_true rfl) dX9_riffleNow_23 ⟨Nat.le_of_ble_eq_true rfl, Nat.le_of_ble_eq_true rfl⟩ ⟨Nat.le_of_ble_eq_true rfl, Nat.le_of_ble_eq_true rfl⟩ ?_
          refine aw_aload_n dX9_riffleNow_26 rfl ?_
          refine aw_iload_n dX9_riffleNow_27 rfl ?_
          refine aw_ic dX9_riffleNow_28 ic_1 ?_
          refine aw_isubN (by omega) dX9_riffleNow_29 ?_
          refine aw_callVR (As := [.int (nI (i - 1))]) (rest := [.int (nI (ixOf l i))]) (c_X7_find G hC0 hc hn ⟨_, g2⟩) kX7_find w_1024 y_11 rfl rfl rfl rfl (Nat.le_of_ble_eq_true rfl) dX9_riffleNow_30 ⟨Nat.le_of_ble_eq_true rfl, Nat.le_of_ble_eq_true rfl⟩ ⟨Nat.le_of_ble_eq_true rfl, Nat.le_of_ble_eq_true rfl⟩ ?_
          refine aw_icmp_leN (tgt := 42) (by omega) (by omega) dX9_riffleNow_33 (by decide) (fun c3 => ?_) (fun c3 => ?_)
          · skip
            have hne : ixOf l i ≠ ixOf l (i - 1) := fun e => by have := g1.2; rw [e, g2.2] at this; omega
            have hbg : bgn l n = i := by have e : ff (fun i => decide (ixOf l (i + 1) < ixOf l i)) (n - 1) = i - 1 := ff_eq (by omega) hno (fun _ => by show decide (ixOf l (i - 1 + 1) < ixOf l (i - 1)) = true; rw [show i - 1 + 1 = i by omega]; exact decide_eq_true (by omega)); unfold bgn; omega
            refine aw_ic dX9_riffleNow_42 ic_0 ?_
            refine aw_istore_n (L' := [(3, .int (nI (0))), (0, .ref (dk)), (1, .int (nI (runs l n))), (2, .int (nI (i)))]) dX9_riffleNow_43 (by decide) rfl ?_
            refine aw_ic dX9_riffleNow_44 ic_0 ?_
            refine aw_istore (L' := [(4, .int (nI (0))), (3, .int (nI (0))), (0, .ref (dk)), (1, .int (nI (runs l n))), (2, .int (nI (i)))]) dX9_riffleNow_45 (by decide) rfl ?_
            have K2 : ∀ (d : Nat) (m c : Nat), l.length - c < d → (c ≤ l.length) → (m = plf l i c) → aw G mX9_riffleNow [] (aRoom 2 0 0) (aEnd G (pI (rifM l n) h nx) 0 0) 0 0 h nx 47 [(0, .ref (dk)), (1, .int (nI (runs l n))), (2, .int (nI (i))), (3, .int (nI (m))), (4, .int (nI (c)))] [] := by
              intro d
              induction d with
              | zero => intro m c hMd; exact absurd hMd (Nat.not_lt_zero _)
              | succ d ih =>
                intro m c hMd hc2 hm
                refine aw_iload dX9_riffleNow_47 rfl ?_
                refine aw_aload_n dX9_riffleNow_49 rfl ?_
                refine aw_callVR (As := []) (rest := [.int (nI (c))]) (c_X7_size G hC0 hc hn) kX7_size w_868 y_11 rfl rfl rfl rfl (Nat.le_of_ble_eq_true rfl) dX9_riffleNow_50 ⟨Nat.le_of_ble_eq_true rfl, Nat.le_of_ble_eq_true rfl⟩ ⟨Nat.le_of_ble_eq_true rfl, Nat.le_of_ble_eq_true rfl⟩ ?_
                refine aw_icmp_geN (tgt := 84) (by omega) (by omega) dX9_riffleNow_53 (by decide) (fun c4 => ?_) (fun c4 => ?_)
                · skip
                  refine aw_iload_n dX9_riffleNow_84 rfl ?_
                  exact aw_ireturn dX9_riffleNow_85 rfl ⟨r_i (by unfold rifM; rw [if_neg (by omega), if_neg (by omega), hbg, hm, show c = n by omega]), rfl, rfl⟩ (Nat.le_of_ble_eq_true rfl) (Nat.le_of_ble_eq_true rfl)
                · skip
                  have hcc := hc.2 c c4
                  refine aw_iload_n dX9_riffleNow_56 rfl ?_
                  refine aw_aload_n dX9_riffleNow_57 rfl ?_
                  refine aw_getN 0 y_11 rfl rfl (by decide) w_774 rfl dX9_riffleNow_58 ?_
                  refine aw_iload dX9_riffleNow_61 rfl ?_
                  refine aw_iaload y_12 (by omega) (by omega) dX9_riffleNow_63 ?_
                  refine aw_top (show (y_1f c) = (nI (l.getD c 0 / 2)) from (y_1v c c4).1) ?_
                  refine aw_iload_n dX9_riffleNow_64 rfl ?_
                  refine aw_icmp_ltN (tgt := 75) (by omega) (by omega) dX9_riffleNow_65 (by decide) (fun c5 => ?_) (fun c5 => ?_)
                  · skip
                    refine aw_ic dX9_riffleNow_75 ic_0 ?_
                    refine aw_ior dX9_riffleNow_76 ?_
                    refine aw_top (show ((nI (m)) ||| (nI (0))) = (nI (m ||| 0)) from n_or _ _) ?_
                    refine aw_istore_n (L' := [(3, .int (nI (m ||| 0))), (0, .ref (dk)), (1, .int (nI (runs l n))), (2, .int (nI (i))), (4, .int (nI (c)))]) dX9_riffleNow_77 (by decide) rfl ?_
                    refine aw_iincN (k := 1) (L' := [(4, .int (nI (c + 1))), (3, .int (nI (m ||| 0))), (0, .ref (dk)), (1, .int (nI (runs l n))), (2, .int (nI (i)))]) dX9_riffleNow_78 (by decide) rfl (by decide) rfl ?_
                    refine aw_goto (tgt := 47) dX9_riffleNow_81 (by decide) ?_
                    refine aw_sub (L' := [(0, .ref (dk)), (1, .int (nI (runs l n))), (2, .int (nI (i))), (3, .int (nI (m ||| 0))), (4, .int (nI (c + 1)))]) [2, 3, 4, 1, 0] rfl ?_
                    exact ih (m ||| 0) (c + 1) (by omega) (by omega) (by rw [hm]; simp only [plf, cd]; rw [if_neg (by omega)])
                  · skip
                    refine aw_ic dX9_riffleNow_68 ic_1 ?_
                    refine aw_iload dX9_riffleNow_69 rfl ?_
                    refine aw_ishl dX9_riffleNow_71 ?_
                    refine aw_top (show ((nI (1)) <<< ((nI (c)) &&& 31)) = (nI (2 ^ c)) from n_shl1 c (by omega)) ?_
                    refine aw_goto (tgt := 76) dX9_riffleNow_72 (by decide) ?_
                    refine aw_ior dX9_riffleNow_76 ?_
                    refine aw_top (show ((nI (m)) ||| (nI (2 ^ c))) = (nI (m ||| 2 ^ c)) from n_or _ _) ?_
                    refine aw_istore_n (L' := [(3, .int (nI (m ||| 2 ^ c))), (0, .ref (dk)), (1, .int (nI (runs l n))), (2, .int (nI (i))), (4, .int (nI (c)))]) dX9_riffleNow_77 (by decide) rfl ?_
                    refine aw_iincN (k := 1) (L' := [(4, .int (nI (c + 1))), (3, .int (nI (m ||| 2 ^ c))), (0, .ref (dk)), (1, .int (nI (runs l n))), (2, .int (nI (i)))]) dX9_riffleNow_78 (by decide) rfl (by decide) rfl ?_
                    refine aw_goto (tgt := 47) dX9_riffleNow_81 (by decide) ?_
                    refine aw_sub (L' := [(0, .ref (dk)), (1, .int (nI (runs l n))), (2, .int (nI (i))), (3, .int (nI (m ||| 2 ^ c))), (4, .int (nI (c + 1)))]) [2, 3, 4, 1, 0] rfl ?_
                    exact ih (m ||| 2 ^ c) (c + 1) (by omega) (by omega) (by rw [hm]; simp only [plf, cd]; rw [if_pos (by omega)])
            refine aw_sub (L' := [(0, .ref (dk)), (1, .int (nI (runs l n))), (2, .int (nI (i))), (3, .int (nI (0))), (4, .int (nI (0)))]) [2, 3, 4, 1, 0] rfl ?_
            exact K2 (l.length + 1) 0 0 (by omega) (Nat.zero_le _) rfl
          · skip
            have hni : (fun i => decide (ixOf l (i + 1) < ixOf l i)) (i - 1) = false := by show decide (ixOf l (i - 1 + 1) < ixOf l (i - 1)) = false; rw [show i - 1 + 1 = i by omega]; exact decide_eq_false (by omega)
            have hall : ∀ k, k < i → (fun i => decide (ixOf l (i + 1) < ixOf l i)) k = false := fun k hk => by rcases Nat.lt_or_ge k (i - 1) with w | w; exact hno k w; rw [show k = i - 1 by omega]; exact hni
            have hin : i + 1 < n := by rcases Nat.lt_or_ge (i + 1) n with w | w; exact w; exact absurd (hd2.symm.trans (hall dd (by omega))) (by decide)
            refine aw_iincN (k := 1) (L' := [(2, .int (nI (i + 1))), (0, .ref (dk)), (1, .int (nI (runs l n)))]) dX9_riffleNow_36 (by decide) rfl (by decide) rfl ?_
            refine aw_goto (tgt := 21) dX9_riffleNow_39 (by decide) ?_
            refine aw_sub (L' := [(0, .ref (dk)), (1, .int (nI (runs l n))), (2, .int (nI (i + 1)))]) [1, 2, 0] rfl ?_
            exact ih (i + 1) (by omega) (by omega) (fun k hk => hall k (by omega))
      refine aw_sub (L' := [(0, .ref (dk)), (1, .int (nI (runs l n))), (2, .int (nI (1)))]) [2, 1, 0] rfl ?_
      exact K (n + 1) 1 (by omega) (by omega) (fun k hk => absurd hk (Nat.not_lt_zero _))
    · skip
      refine aw_ic dX9_riffleNow_17 ic_0 ?_
      exact aw_ireturn dX9_riffleNow_18 rfl ⟨r_i (by unfold rifM; rw [if_neg (by omega), if_pos (by omega)]; rfl), rfl, rfl⟩ (Nat.le_of_ble_eq_true rfl) (Nat.le_of_ble_eq_true rfl)
  · skip
    refine aw_iconst dX9_riffleNow_10 ic_m1 ?_
    exact aw_ireturn dX9_riffleNow_11 rfl ⟨r_i (by unfold rifM; rw [if_pos (by omega)]), rfl, rfl⟩ (Nat.le_of_ble_eq_true rfl) (Nat.le_of_ble_eq_true rfl)
