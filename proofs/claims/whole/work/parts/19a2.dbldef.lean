/-! ===== what chance and far are ===== -/
theorem n64_of {x : UInt64} (h : n64b x = true) : vf_n64 x := by
  have h2 : x &&& 0x7fffffffffffffff ≤ 0x7ff0000000000000 := of_decide_eq_true h
  exact h2
theorem chC_at {p r : Nat} : ∀ f i, chC p r f i (chF p r i) = true → ∀ j, i ≤ j → j < i + f → vf_n64 (ch1 p r j (chF p r j)) ∧ vf_n64 (ch2 p r j (chF p r j)) ∧ vf_n64 (ch3 p r j (chF p r j)) := by
  intro f
  induction f with
  | zero => intro i _ j h1 h2; omega
  | succ f ih =>
    intro i h j h1 h2
    unfold chC at h
    have h3 := Bool.and_eq_true_iff.mp h
    have h4 := Bool.and_eq_true_iff.mp h3.1
    have h5 := Bool.and_eq_true_iff.mp h3.2
    by_cases z : j = i
    · subst z; exact ⟨n64_of h4.1, n64_of h4.2, n64_of h5.1⟩
    · exact ih (i + 1) h5.2 j (by omega) (by omega)
theorem ch_ok {k r n i : Nat} (hk : k ≤ 12) (h0 : 0 < r) (hr : r ≤ 16) (hp : r ≤ 2 ^ k) (hi : i < n) (hn : n ≤ 16) : vf_n64 (ch1 (2 ^ k) r i (chF (2 ^ k) r i)) ∧ vf_n64 (ch2 (2 ^ k) r i (chF (2 ^ k) r i)) ∧ vf_n64 (ch3 (2 ^ k) r i (chF (2 ^ k) r i)) :=
  chC_at 16 0 (ch_all k (by omega) r (by omega) h0 hp) i (Nat.zero_le _) (by omega)
def chV (l : List Nat) (k : Nat) : UInt64 := if 2 ^ k < runs l l.length then FP.dconst0 else chF (2 ^ k) (runs l l.length) l.length
def adf (a b : Nat) : Nat := (a - b) + (b - a)
theorem adf_all : ∀ a : Nat, a < 16 → ∀ b : Nat, b < 16 → (if 0 ≤ nI a - nI b then nI a - nI b else 0 - (nI a - nI b)) = nI (adf a b) := by decide +kernel
def sumA (l : List Nat) : Nat → Nat
  | 0 => 0
  | i + 1 => sumA l i + adf i (l.getD i 0 / 2)
theorem sumA_le {l : List Nat} {n : Nat} (hc : cOk n l) (hn : n ≤ 16) : ∀ i, i ≤ n → sumA l i ≤ 15 * i := by
  intro i
  induction i with
  | zero => intro _; exact Nat.le_refl _
  | succ i ih =>
    intro hi
    have h1 := ih (by omega)
    have h2 := hc.lt (i := i) (by omega)
    simp only [sumA, adf]
    omega
def farV (l : List Nat) : UInt64 := FP.ddiv (FP.i2d (nI (sumA l l.length))) (FP.i2d (nI l.length))
def sChance (σ : aSg) (x k : Int32) : aRs := if inD σ x then (if wIn k 0 12 then rD (chV (dkI σ x).1 k.toInt.toNat) σ else rE xIAE σ) else rE xIOB σ
def sFar (σ : aSg) (x : Int32) : aRs := if inD σ x then rD (farV (dkI σ x).1) σ else rE xIOB σ
