section
/-! THIS IS NO PROOF OF p25's WORDS. It shows that the printed statement is EMPTY: no launch meets its premises. The law's own method has an exception table (it catches IllegalStateException itself), the statement's head says that its code has none. -/
/-- the law's method, as the class file has it: two rows of an exception table -/
theorem em_table : (classFile.methodOf? x).map (fun q => q.code.map (fun r => r.2.2)) = some (some 2) := by decide +kernel
/-- so the class file hasn't, for that name, a code without such a table -/
theorem em_code : classFile.hasCode x code maxLocals ret = false := by decide +kernel
/-- what the statement's printed page on the class file says doesn't hold -/
theorem em_pinned : ¬ PinnedClaimed := fun h => by
  have h1 : classFile.hasCode x code maxLocals ret = true := h
  rw [em_code] at h1
  exact Bool.false_ne_true h1
theorem em_mem (ts : List Cond) (room : Room) : (x, code, maxLocals, ret) ∈ (Jvm.D.headSpec (Cond.code x code maxLocals ret :: ts) room).pre.codes ++ (Jvm.D.headSpec (Cond.code x code maxLocals ret :: ts) room).post.codes :=
  List.mem_append_left _ (List.mem_append_left _ List.mem_cons_self)
/-- no launch, whatever its flags, its other classes and its tables, meets the premises -/
theorem em_lists (l : Launch) (ts : List Cond) (room : Room) : ¬ Jvm.D.Lists l classFile x code maxLocals ret ts room := by
  intro h
  have h1 := h.2.2.1.1 (x, code, maxLocals, ret) (em_mem ts room)
  rw [h.2.1, Option.any_some, em_code] at h1
  exact Bool.false_ne_true h1
/-- nor the launch that is printed: what the printed page takes for the witness is false -/
theorem em_lists_1 : ¬ ListsClaimed_1 := em_lists launch0 tables_1 room_1
/-- the owed statement, true for want of any start that it speaks of: it says nothing of the class -/
theorem i_vc : Claimed_1_1 ∧ Claimed_1_2 := ⟨fun l _ h => absurd h (em_lists l _ _), fun l _ h => absurd h (em_lists l _ _)⟩
end
