/-! ===== the entry: what the tables and the start give ===== -/
theorem st_prim {args : Array Value} {s : State} {ty : FieldType} (h : (Cond.arrayClass ty).before args s = true) : ∃ cA : ClassId, ArrOfT s cA ty ∧ s.vm.findClass ("[" ++ ty.toString) = some cA := by
  obtain ⟨c, k, comp, h1, h2, h3⟩ := Cond.arrayClass_spec h
  exact ⟨c, fun n z => ⟨fun k h => (by cases h), k, h2, comp, h3⟩, h1⟩
theorem st_obj {s : State} {C : String} (h : va_AO C s) : ∃ cA : ClassId, ArrOfT s cA (.object C) ∧ va_RA s cA (.object C) := by
  obtain ⟨comp, c, k, h1, h2, h3, h4, h5⟩ := Cond.arrayOver_spec h
  exact ⟨c, fun n z => ⟨fun k h => (by cases h), k, h3, comp, h4⟩, k, comp, h3, h4, h1, h5⟩
theorem st_aoa {s : State} (h : aAOA s) : ∃ cA : ClassId, ArrOfT s cA (.array .int) ∧ va_RA s cA (.array .int) := by
  obtain ⟨comp, c, k, h1, h2, h3, h4, h5⟩ : ∃ comp c k, s.vm.findClass (FieldType.array .int).toString = some comp ∧ (s.vm.classes.findIdx? fun (x : Class) => match x.kind with | .array component _ => component == comp | _ => false) = some c ∧ s.vm.classes[c]? = some k ∧ k.kind = .array comp (.array .int) ∧ s.vm.findClass ("[" ++ (FieldType.array .int).toString) = some c := by
    unfold aAOA Cond.before at h
    simp only [Cond.holds, Cond.value, beq_iff_eq] at h
    cases hc : s.vm.findClass (FieldType.array .int).toString with
    | none => simp [hc] at h
    | some comp =>
      simp only [hc, Option.bind_some, Option.bind_eq_some_iff, Option.map_eq_some_iff] at h
      obtain ⟨c, hi, k, hk, hb⟩ := h
      obtain ⟨hlt, hp, -⟩ := Array.findIdx?_eq_some_iff_getElem.mp hi
      have hkk : s.vm.classes[c] = k := (Array.getElem?_eq_some_iff.mp hk).2
      rw [hkk] at hp
      cases hkind : k.kind with
      | array component ty =>
        rw [hkind] at hb hp
        simp at hb hp
        exact ⟨comp, c, k, rfl, hi, hk, by rw [hkind, hp, hb.1], hb.2⟩
      | _ => rw [hkind] at hb; simp at hb
  exact ⟨c, fun n z => ⟨fun k h => (by cases h), k, h3, comp, h4⟩, h5⟩
theorem st_str {args : Array Value} {s : State} {own tx : String} {k : Nat} (h1 : (Cond.stringRef own k tx).before args s = true) (h2 : (Cond.exactly (.string own k) "java/lang/String").before args s = true) : ∃ sa, vk_R own k tx sa s := by
  obtain ⟨a, c, cell, kk, e1, -⟩ := Cond.exactly_spec h2
  exact ⟨a, vk_R.of h1 e1⟩
theorem st_cls {args : Array Value} {s : State} (hts : ∀ w ∈ lw_tbl, w.before args s = true) : ∃ (dC : Nat → ClassId) (dI : Nat → Nat → Nat), ∀ (k : Nat) (q : vw_C), vwCl[k]? = some q → u_Kn s q.1 q.2.1 q.2.2 (dC k) (dI k) := by
  obtain ⟨c0, i0, h0⟩ := u_known (C := RJx35411) (T := TJx35411) (N := 4) (n := 4) hts inJI (hts _ w_973)
  obtain ⟨c1, i1, h1⟩ := u_known (C := RJx4a65c) (T := TJx4a65c) (N := 3) (n := 3) hts inJL (hts _ w_702)
  obtain ⟨c2, i2, h2⟩ := u_known (C := RX1) (T := TX1) (N := 4) (n := 4) hts inX1 (hts _ w_57)
  obtain ⟨c3, i3, h3⟩ := u_known (C := RX3) (T := TX3) (N := 3) (n := 3) hts inX3 (hts _ w_41)
  obtain ⟨c4, i4, h4⟩ := u_known (C := RX4) (T := TX4) (N := 3) (n := 3) hts inX4 (hts _ w_79)
  obtain ⟨c5, i5, h5⟩ := u_known (C := RX6) (T := TX6) (N := 8) (n := 8) hts inX6 (hts _ w_29)
  obtain ⟨c6, i6, h6⟩ := u_known (C := RX7) (T := TX7) (N := 5) (n := 5) hts inX7 (hts _ w_766)
  obtain ⟨c7, i7, h7⟩ := u_known (C := RX8) (T := TX8) (N := 2) (n := 2) hts inX8 (hts _ w_880)
  obtain ⟨c8, i8, h8⟩ := u_known (C := RX9) (T := TX9) (N := 5) (n := 5) hts inX9 (hts _ w_696)
  refine ⟨fun k => if k = 0 then c0 else if k = 1 then c1 else if k = 2 then c2 else if k = 3 then c3 else if k = 4 then c4 else if k = 5 then c5 else if k = 6 then c6 else if k = 7 then c7 else c8, fun k => if k = 0 then i0 else if k = 1 then i1 else if k = 2 then i2 else if k = 3 then i3 else if k = 4 then i4 else if k = 5 then i5 else if k = 6 then i6 else if k = 7 then i7 else i8, ?_⟩
  intro k q hq
  match k, hq with
  | 0, hq => cases hq; exact h0
  | 1, hq => cases hq; exact h1
  | 2, hq => cases hq; exact h2
  | 3, hq => cases hq; exact h3
  | 4, hq => cases hq; exact h4
  | 5, hq => cases hq; exact h5
  | 6, hq => cases hq; exact h6
  | 7, hq => cases hq; exact h7
  | 8, hq => cases hq; exact h8
  | k + 9, hq => simp [vwCl] at hq
theorem st_arr {args : Array Value} {s : State} (hts : ∀ w ∈ lw_tbl, w.before args s = true) : ∃ dA : Nat → ClassId, ∀ (k : Nat) (q : ClassId × FieldType), (atys dA)[k]? = some q → ArrOfT s q.1 q.2 ∧ va_RA s q.1 q.2 := by
  obtain ⟨c0, a0, b0⟩ := st_prim (hts _ w_56)
  obtain ⟨c1, a1, b1⟩ := st_prim (hts _ w_792)
  obtain ⟨c2, a2, b2⟩ := st_prim (hts _ w_1184)
  obtain ⟨c3, a3, b3⟩ := st_prim (hts _ w_1185)
  obtain ⟨c4, a4, b4⟩ := st_obj (va_AO.of (hts _ w_840))
  obtain ⟨c5, a5, b5⟩ := st_obj (va_AO.of (hts _ w_37))
  obtain ⟨c6, a6, b6⟩ := st_obj (va_AO.of (hts _ w_39))
  obtain ⟨c7, a7, b7⟩ := st_aoa (s := s) (hts _ w_65)
  refine ⟨fun k => if k = 0 then c0 else if k = 1 then c1 else if k = 2 then c2 else if k = 3 then c3 else if k = 4 then c4 else if k = 5 then c5 else if k = 6 then c6 else c7, ?_⟩
  intro k q hq
  match k, hq with
  | 0, hq => cases hq; exact ⟨a0, b0⟩
  | 1, hq => cases hq; exact ⟨a1, b1⟩
  | 2, hq => cases hq; exact ⟨a2, b2⟩
  | 3, hq => cases hq; exact ⟨a3, b3⟩
  | 4, hq => cases hq; exact ⟨a4, b4⟩
  | 5, hq => cases hq; exact ⟨a5, b5⟩
  | 6, hq => cases hq; exact ⟨a6, b6⟩
  | 7, hq => cases hq; exact ⟨a7, b7⟩
  | k + 8, hq => simp [atys] at hq
theorem st_strs {args : Array Value} {s : State} (hts : ∀ w ∈ lw_tbl, w.before args s = true) (hgv : (Jvm.Cond.and given_1 narrow_1).before args s = true) : ∀ q ∈ aStr, ∃ sa, vk_R q.1 q.2.1 q.2.2 sa s := by
  have hs := flat_of_before _ hgv
  unfold aStr
  exact List.forall_mem_cons.mpr ⟨st_str (hts _ w_543) (hs _ (by decide +kernel)), List.forall_mem_cons.mpr ⟨st_str (hts _ w_523) (hs _ (by decide +kernel)), List.forall_mem_cons.mpr ⟨st_str (hts _ w_483) (hs _ (by decide +kernel)), List.forall_mem_cons.mpr ⟨st_str (hts _ w_175) (hs _ (by decide +kernel)), List.forall_mem_cons.mpr ⟨st_str (hts _ w_548) (hs _ (by decide +kernel)), List.forall_mem_cons.mpr ⟨st_str (hts _ w_349) (hs _ (by decide +kernel)), List.forall_mem_cons.mpr ⟨st_str (hts _ w_460) (hs _ (by decide +kernel)), List.forall_mem_cons.mpr ⟨st_str (hts _ w_263) (hs _ (by decide +kernel)), List.forall_mem_cons.mpr ⟨st_str (hts _ w_649) (hs _ (by decide +kernel)), List.forall_mem_cons.mpr ⟨st_str (hts _ w_355) (hs _ (by decide +kernel)), List.forall_mem_cons.mpr ⟨st_str (hts _ w_625) (hs _ (by decide +kernel)), List.forall_mem_cons.mpr ⟨st_str (hts _ w_613) (hs _ (by decide +kernel)), List.forall_mem_cons.mpr ⟨st_str (hts _ w_612) (hs _ (by decide +kernel)), List.forall_mem_cons.mpr ⟨st_str (hts _ w_604) (hs _ (by decide +kernel)), fun _ h => absurd h List.not_mem_nil⟩⟩⟩⟩⟩⟩⟩⟩⟩⟩⟩⟩⟩⟩
theorem st_ncs {args : Array Value} {s : State} (hgv : (Jvm.Cond.and given_1 narrow_1).before args s = true) : ∀ q ∈ aNcs, va_Nc q.1 q.2 s := by
  have hs := flat_of_before _ hgv
  unfold aNcs
  exact List.forall_mem_cons.mpr ⟨va_Nc.of (hs _ (by decide +kernel)), List.forall_mem_cons.mpr ⟨va_Nc.of (hs _ (by decide +kernel)), List.forall_mem_cons.mpr ⟨va_Nc.of (hs _ (by decide +kernel)), fun _ h => absurd h List.not_mem_nil⟩⟩⟩
theorem st_empty {args : Array Value} {s : State} {B : Nat → Prop} (hts : ∀ w ∈ lw_tbl, w.before args s = true) (hgv : (Jvm.Cond.and given_1 narrow_1).before args s = true) (hA : ∀ a : Nat, a < s.heap.size → ¬ B a) : ∃ t : Nat, t < s.heap.size ∧ va_Z "java/util/ArrayList" "DEFAULTCAPACITY_EMPTY_ELEMENTDATA" "[Ljava/lang/Object;" (.ref t) B s s.heap ∧ va_T (.object "java/lang/Object") t 0 (fun _ => .null) B s s.heap := by
  have hs := flat_of_before _ hgv
  have h1 : (Cond.arrayOf (.static "java/util/ArrayList" "DEFAULTCAPACITY_EMPTY_ELEMENTDATA" "[Ljava/lang/Object;") (.object "java/lang/Object")).before args s = true := hs _ (by decide +kernel)
  have h2 : (Cond.eq (.length (.static "java/util/ArrayList" "DEFAULTCAPACITY_EMPTY_ELEMENTDATA" "[Ljava/lang/Object;")) (.int 0)).before args s = true := hs _ (by decide +kernel)
  obtain ⟨t, ht, hT⟩ := va_Tof (N := 0) (f := fun _ => .null) (by decide) h1 (va_eqt h2) (fun j hj => absurd hj (Nat.not_lt_zero _)) hA
  refine ⟨t, ?_, va_Zof (hts _ w_714) (hts _ w_8) ht hA, hT⟩
  obtain ⟨cell, e1, -⟩ := hT
  exact (Array.getElem?_eq_some_iff.mp e1).1
theorem st_K {args : Array Value} {s : State} (hts : ∀ w ∈ lw_tbl, w.before args s = true) (hgv : (Jvm.Cond.and given_1 narrow_1).before args s = true) : ∃ G : aG, aK G s ∧ G.2.2.1 = s.heap.size ∧ G.2.2.2 < s.heap.size := by
  have hs := flat_of_before _ hgv
  obtain ⟨dC, dI, hC⟩ := st_cls hts
  obtain ⟨dA, hA⟩ := st_arr hts
  have hB : ∀ a : Nat, a < s.heap.size → ¬ (fun q : Nat => s.heap.size ≤ q) a := fun a ha h => absurd ha (Nat.not_lt.mpr h)
  obtain ⟨t, ht, hZ, hT⟩ := st_empty hts hgv hB
  refine ⟨((dC, dI), dA, s.heap.size, t), ⟨⟨hC, hA⟩, fun w hw => ?_, st_strs hts hgv, Nat.le_refl _, ?_, ?_, ⟨?_, ?_, ?_, ?_⟩, ⟨?_, ?_⟩, ⟨hZ, hT⟩, ?_, st_ncs hgv⟩, rfl, ht⟩
  · exact va_Nw.of (aNk_ot (List.mem_filter.mp hw).2) (hts w (List.mem_filter.mp hw).1)
  · exact vx_Zqof (hts _ w_161) (hts _ w_9) (hs _ (by decide +kernel)) hB
  · exact vx_Zqof (hts _ w_163) (hts _ w_9) (hs _ (by decide +kernel)) hB
  · exact va_AO.of (hts _ w_840)
  · exact va_AO.of (hts _ w_37)
  · exact va_AO.of (hts _ w_39)
  · exact hts _ w_65
  · exact va_Fw.of (hts _ w_994) (hts _ w_993) (hts _ w_999) (hts _ w_997) (hts _ w_995)
  · exact va_Fw.of (hts _ w_1004) (hts _ w_1003) (hts _ w_1008) (hts _ w_1006) (hts _ w_995)
  · exact va_Mi.of (hs _ (by decide +kernel))
