/-! ===== what the kinds of shuffles make of a new deck ===== -/
def spn (a b : Nat) : List Nat := (List.range (b - a)).map (fun i => 2 * (a + i))
def hlv (a b : Nat) : Nat → List Nat
  | 0 => []
  | k + 1 => hlv a b k ++ [2 * (a + k)] ++ [2 * (b + k)]
/-- those below k with p, from above, t added to each code -/
def dsc (p : Nat → Bool) (t : Nat) : Nat → List Nat
  | 0 => []
  | k + 1 => (if p k then [2 * k + t] else []) ++ dsc p t k
def mlk (n : Nat) : Nat → List Nat
  | 0 => []
  | k + 1 => [2 * k] ++ ([2 * (n - 1 - k)] ++ mlk n k)
def dls (m n : Nat) : Nat → List Nat
  | 0 => []
  | p + 1 => dls m n p ++ dsc (fun i => decide (i % m = p)) 0 n
def evn (n : Nat) : Nat → List Nat
  | 0 => []
  | k + 1 => evn n k ++ [2 * (2 * k)]
abbrev ones (m k : Nat) : Nat := ct (fun j => m.testBit j) k
def rif (m n : Nat) : Nat → List Nat
  | 0 => []
  | k + 1 => rif m n k ++ [2 * (if m.testBit k then n - ones m n + ones m k else k - ones m k)]
def pck (m : Nat) : Nat → Nat → List Nat
  | 0, e => spn 0 e
  | k + 1, e => if m.testBit k then spn (k + 1) e ++ pck m k (k + 1) else pck m k e
def layL (k m n : Nat) : List Nat := match k with
  | 0 => spn m n ++ spn 0 m
  | 1 => hlv 0 (n / 2) (n / 2)
  | 2 => hlv (n / 2) 0 (n / 2)
  | 3 => dsc (fun i => decide (i % 2 = 1)) 0 n ++ evn n ((n + 1) / 2)
  | 4 => (if n % 2 = 1 then [2 * (n / 2)] else []) ++ mlk n (n / 2)
  | 5 => dls m n m
  | 6 => dsc (fun _ => true) 0 m ++ spn m n
  | 7 => dsc (fun _ => true) 1 m ++ spn m n
  | 8 => rif m n n
  | _ => pck m (n - 1) n
/-- whether that is a shuffle for n cards -/
def isO (k m : Int) (n : Nat) : Bool := decide ((2 ≤ n ∧ n ≤ 16) ∧ ((k = 0 ∧ 0 ≤ m ∧ m ≤ n - 1) ∨ ((k = 1 ∨ k = 2) ∧ m = 0 ∧ n % 2 = 0) ∨ ((k = 3 ∨ k = 4) ∧ m = 0) ∨ (k = 5 ∧ 2 ≤ m ∧ m ≤ 4) ∨ ((k = 6 ∨ k = 7) ∧ 0 ≤ m ∧ m ≤ n) ∨ (k = 8 ∧ 0 ≤ m ∧ m ≤ ((2 ^ n - 1 : Nat) : Int)) ∨ (k = 9 ∧ 0 ≤ m ∧ m ≤ ((2 ^ (n - 1) - 1 : Nat) : Int))))
theorem spn_len {a b : Nat} : (spn a b).length = b - a := by simp [spn]
theorem ones_mono {m k n : Nat} (h : k ≤ n) : ones m k ≤ ones m n := by
  induction n with
  | zero => rw [show k = 0 by omega]; exact Nat.le_refl _
  | succ n ih =>
    rcases Nat.lt_or_ge k (n + 1) with q | q
    · have := ih (by omega)
      simp only [ones, ct] at this ⊢; omega
    · rw [show k = n + 1 by omega]; exact Nat.le_refl _
theorem rif_ok {m n : Nat} (k : Nat) (hk : k ≤ n) : (rif m n k).length = k ∧ ∀ c ∈ rif m n k, c / 2 < n := by
  induction k with
  | zero => exact ⟨rfl, fun c hc => absurd hc List.not_mem_nil⟩
  | succ k ih =>
    obtain ⟨h1, h2⟩ := ih (by omega)
    refine ⟨by simp [rif, h1], fun c hc => ?_⟩
    rcases List.mem_append.mp hc with q | q
    · exact h2 c q
    · have e := List.mem_singleton.mp q
      have g1 := ct_le (fun j => m.testBit j) n
      have g2 := ct_le (fun j => m.testBit j) k
      rw [e]
      split
      · rename_i hb
        have g3 : ones m (k + 1) = ones m k + 1 := ct_t hb
        have g4 := ones_mono (m := m) (k := k + 1) (n := n) (by omega)
        unfold ones at *; omega
      · omega
theorem spn_lt {a b : Nat} : ∀ c ∈ spn a b, c / 2 < b := by
  intro c hc
  unfold spn at hc
  obtain ⟨i, hi, rfl⟩ := List.mem_map.mp hc
  have := List.mem_range.mp hi
  omega
theorem pck_ok {m : Nat} (k e : Nat) (h : k < e) : (pck m k e).length = e ∧ ∀ c ∈ pck m k e, c / 2 < e := by
  induction k generalizing e with
  | zero => exact ⟨by simp [pck, spn_len], spn_lt⟩
  | succ k ih =>
    unfold pck
    split
    · obtain ⟨h1, h2⟩ := ih (k + 1) (by omega)
      refine ⟨by rw [List.length_append, spn_len, h1]; omega, fun c hc => ?_⟩
      rcases List.mem_append.mp hc with q | q
      · exact spn_lt c q
      · have := h2 c q; omega
    · exact ih e (by omega)
theorem cOk_of {n : Nat} {l : List Nat} (h1 : l.length = n) (h2 : ∀ c ∈ l, c / 2 < n) : cOk n l := ⟨h1, fun i hi => by rw [gD_eq hi]; exact h2 _ (List.getElem_mem hi)⟩
theorem lay_small : ∀ n : Nat, n < 17 → ∀ m : Nat, m < 17 → ∀ k : Nat, k < 8 → isO k m n = true → ((layL k m n).length = n ∧ (layL k m n).all (fun c => decide (c / 2 < n)) = true) := by decide +kernel
theorem lay_cOk {k m n : Nat} (h : isO k m n = true) : cOk n (layL k m n) := by
  have h0 := of_decide_eq_true h
  obtain ⟨hn, h1⟩ := h0
  by_cases q : k < 8
  · have hm : m < 17 := by omega
    obtain ⟨g1, g2⟩ := lay_small n (by omega) m hm k q h
    exact cOk_of g1 (fun c hc => of_decide_eq_true (List.all_eq_true.mp g2 c hc))
  · by_cases q8 : k = 8
    · subst q8; exact cOk_of (rif_ok n (Nat.le_refl _)).1 (rif_ok n (Nat.le_refl _)).2
    · have q9 : k = 9 := by omega
      subst q9
      obtain ⟨g1, g2⟩ := pck_ok (m := m) (n - 1) n (by omega)
      exact cOk_of g1 g2
