/-! ===== the rows of what is done often ===== -/
theorem oft_cOk {n d : Nat} : ∀ {l s : List Nat} {k : Nat}, cOk n l → cOk n s → cOk n (oft d l s k) := by
  induction d with
  | zero => intro l s k hl hs; exact hl
  | succ d ih =>
    intro l s k hl hs
    unfold oft
    by_cases c : k = 0
    · rw [if_pos c]; exact hl
    · rw [if_neg c]
      by_cases c2 : k % 2 = 1
      · rw [if_pos c2]; exact ih (fol_cOk hl hs) (fol_cOk hs hs)
      · rw [if_neg c2]; exact ih hl (fol_cOk hs hs)
theorem isO_pos {x y : Int} {n : Nat} (h : isO x y n = true) : isO (x.toNat : Int) (y.toNat : Int) n = true := by
  have h0 := of_decide_eq_true h
  rw [show ((x.toNat : Nat) : Int) = x by omega, show ((y.toNat : Nat) : Int) = y by omega]
  exact h
theorem lay_cOkI {x y : Int} {n : Nat} (h : isO x y n = true) : cOk n (layL x.toNat y.toNat n) := lay_cOk (isO_pos h)
