/-! ===== every number lies somewhere ===== -/
theorem cAll_of {n : Nat} {l : List Nat} (h : ∀ x, x < n → ∃ c ∈ l, c / 2 = x) : cAll n l := by
  intro x hx
  obtain ⟨c, hc, rfl⟩ := h x hx
  obtain ⟨j, hj, rfl⟩ := List.getElem_of_mem hc
  exact ⟨j, hj, by rw [gD_eq hj]⟩
theorem spn_mem {a b x : Nat} (h1 : a ≤ x) (h2 : x < b) : 2 * x ∈ spn a b :=
  List.mem_map.mpr ⟨x - a, List.mem_range.mpr (by omega), by omega⟩
theorem lay_small2 : ∀ n : Nat, n < 17 → ∀ m : Nat, m < 17 → ∀ k : Nat, k < 8 → isO k m n = true → (List.range n).all (fun x => (layL k m n).any (fun c => c / 2 == x)) = true := by decide +kernel
theorem rif_all {m n : Nat} (k : Nat) : (∀ x, x < k - ones m k → ∃ c ∈ rif m n k, c / 2 = x) ∧ ∀ x, x < ones m k → ∃ c ∈ rif m n k, c / 2 = n - ones m n + x := by
  induction k with
  | zero => exact ⟨fun x hx => absurd hx (by simp), fun x hx => absurd hx (by simp [ct])⟩
  | succ k ih =>
    obtain ⟨h1, h2⟩ := ih
    have hle := ct_le (fun j => m.testBit j) k
    cases hb : m.testBit k with
    | true =>
      have e : ones m (k + 1) = ones m k + 1 := ct_t hb
      refine ⟨fun x hx => ?_, fun x hx => ?_⟩
      · obtain ⟨c, hc, he⟩ := h1 x (by rw [e] at hx; omega)
        exact ⟨c, List.mem_append_left _ hc, he⟩
      · by_cases z : x = ones m k
        · exact ⟨2 * (n - ones m n + ones m k), List.mem_append_right _ (by simp [hb]), by omega⟩
        · obtain ⟨c, hc, he⟩ := h2 x (by rw [e] at hx; omega)
          exact ⟨c, List.mem_append_left _ hc, he⟩
    | false =>
      have e : ones m (k + 1) = ones m k := ct_f hb
      refine ⟨fun x hx => ?_, fun x hx => ?_⟩
      · by_cases z : x = k - ones m k
        · exact ⟨2 * (k - ones m k), List.mem_append_right _ (by simp [hb]), by omega⟩
        · obtain ⟨c, hc, he⟩ := h1 x (by rw [e] at hx; omega)
          exact ⟨c, List.mem_append_left _ hc, he⟩
      · obtain ⟨c, hc, he⟩ := h2 x (by rw [e] at hx; omega)
        exact ⟨c, List.mem_append_left _ hc, he⟩
theorem pck_all {m : Nat} (k : Nat) : ∀ e, k < e → ∀ x, x < e → ∃ c ∈ pck m k e, c / 2 = x := by
  induction k with
  | zero => intro e _ x hx; exact ⟨2 * x, spn_mem (Nat.zero_le _) hx, by omega⟩
  | succ k ih =>
    intro e he x hx
    unfold pck
    split
    · by_cases z : k + 1 ≤ x
      · exact ⟨2 * x, List.mem_append_left _ (spn_mem z hx), by omega⟩
      · obtain ⟨c, hc, e9⟩ := ih (k + 1) (by omega) x (by omega)
        exact ⟨c, List.mem_append_right _ hc, e9⟩
    · exact ih e (by omega) x hx
theorem lay_cAll {k m n : Nat} (h : isO k m n = true) : cAll n (layL k m n) := by
  have h0 := of_decide_eq_true h
  obtain ⟨hn, h1⟩ := h0
  refine cAll_of (fun x hx => ?_)
  by_cases q : k < 8
  · have hm : m < 17 := by omega
    have g := List.all_eq_true.mp (lay_small2 n (by omega) m hm k q h) x (List.mem_range.mpr hx)
    obtain ⟨c, hc, he⟩ := List.any_eq_true.mp g
    exact ⟨c, hc, beq_iff_eq.mp he⟩
  · by_cases q8 : k = 8
    · subst q8
      obtain ⟨g1, g2⟩ := rif_all (m := m) (n := n) n
      have hle := ct_le (fun j => m.testBit j) n
      by_cases z : x < n - ones m n
      · exact g1 x z
      · obtain ⟨c, hc, he⟩ := g2 (x - (n - ones m n)) (by omega)
        exact ⟨c, hc, by omega⟩
    · have q9 : k = 9 := by omega
      subst q9
      exact pck_all (n - 1) n (by omega) x hx
theorem lay_cAllI {x y : Int} {n : Nat} (h : isO x y n = true) : cAll n (layL x.toNat y.toNat n) := lay_cAll (isO_pos h)
theorem fol_cAll {n : Nat} {l s : List Nat} (hl : cOk n l) (ha : cAll n l) (hs : cOk n s) (hb : cAll n s) : cAll n (fol l s) := by
  intro x hx
  obtain ⟨j, hj, hjx⟩ := ha x hx
  obtain ⟨i, hi, hij⟩ := hb j (by rw [← hl.1]; exact hj)
  exact ⟨i, by rw [fol_len]; exact hi, by rw [fol_at hi, xor1_half _ _ (by omega), hij]; exact hjx⟩
theorem oft_cAll {n d : Nat} : ∀ {l s : List Nat} {k : Nat}, cOk n l → cAll n l → cOk n s → cAll n s → cAll n (oft d l s k) := by
  induction d with
  | zero => intro l s k _ ha _ _; exact ha
  | succ d ih =>
    intro l s k hl ha hs hb
    unfold oft
    by_cases c : k = 0
    · rw [if_pos c]; exact ha
    · rw [if_neg c]
      by_cases c2 : k % 2 = 1
      · rw [if_pos c2]; exact ih (fol_cOk hl hs) (fol_cAll hl ha hs hb) (fol_cOk hs hs) (fol_cAll hs hb hs hb)
      · rw [if_neg c2]; exact ih hl ha (fol_cOk hs hs) (fol_cAll hs hb hs hb)
theorem idL_cAll {n : Nat} : cAll n (idL n) := fun x hx => ⟨x, by rw [idL_len]; exact hx, by rw [idL_at hx]; omega⟩
theorem seqF_cAll {n : Nat} {st : aSt} : ∀ {l z : List Nat}, cOk n l → cAll n l → seqF n l st = some z → cAll n z := by
  induction st with
  | nil => intro l z _ ha e; simp only [seqF, Option.some.injEq] at e; rw [← e]; exact ha
  | cons x t ih =>
    intro l z h ha e
    unfold seqF at e
    by_cases c : isO (x.1 : Int) (x.2 : Int) n = true
    · rw [if_pos c] at e; exact ih (fol_cOk h (lay_cOk c)) (fol_cAll h ha (lay_cOk c) (lay_cAll c)) e
    · rw [if_neg c] at e; exact absurd e (by simp)
theorem seqL_cAll {n : Nat} {st : aSt} {z : List Nat} (e : seqL st n = some z) : cAll n z := seqF_cAll idL_cOk idL_cAll e
/-! ===== toTop, goes, best, riffle as the class reckons them ===== -/
def btF (m half : Nat) : Nat → Nat
  | 0 => 0
  | q + 1 => if m &&& (2 ^ q ||| 2 ^ (half + q)) = 0 then btF m half q else btF m half q ||| 3 * 2 ^ (2 * q)
theorem btF_lt {m half : Nat} : ∀ q, btF m half q < 2 ^ (2 * q) := by
  intro q
  induction q with
  | zero => exact (by decide : (0 : Nat) < 1)
  | succ q ih =>
    have h1 : 2 ^ (2 * (q + 1)) = 4 * 2 ^ (2 * q) := by rw [show 2 * (q + 1) = 2 * q + 2 by omega, Nat.pow_add]; omega
    have h2 : btF m half q < 2 ^ (2 * (q + 1)) := by omega
    have h3 : 0 < 2 ^ (2 * q) := Nat.two_pow_pos _
    unfold btF
    split
    · exact h2
    · exact Nat.or_lt_two_pow h2 (by omega)
def ttF (half : Nat) : Nat → Nat → Nat → Int32
  | 0, _, _ => -1
  | f + 1, t, m => if m % 2 = 1 then nI t else ttF half f (t + 1) (btF m half half)
def toT (l : List Nat) (j : Nat) : Int32 := if l.length % 2 = 1 then -1 else ttF (l.length / 2) (l.length + 1) 0 (2 ^ j)
def bsS (l : List Nat) (k m : Nat) (z : Int32 × Nat) : Int32 × Nat := if isO (k : Int) (m : Int) l.length then (if invs (fol l (layL k m l.length)) l.length < z.2 then (nI k, invs (fol l (layL k m l.length)) l.length) else z) else z
def bsK (l : List Nat) : Nat → Int32 × Nat
  | 0 => (-1, 2147483647)
  | k + 1 => bsS l (k + 1) (if k + 1 = 5 then 2 else 0) (bsK l k)
def bestV (l : List Nat) : Int32 := (bsK l 5).1
abbrev fits8 (l : List Nat) (m : Nat) : Prop := ∀ i, i < l.length → (layL 8 m l.length).getD i 0 / 2 = l.getD i 0 / 2
def rfF (l : List Nat) : Nat → Int32
  | 0 => -1
  | k + 1 => if fits8 l (plf l k l.length) then nI (plf l k l.length) else rfF l k
def rifV (l : List Nat) : Int32 := rfF l (l.length + 1)
def sToTop (σ : aSg) (x p : Int32) : aRs := if inD σ x then (if inP (dkI σ x).1 p then rI (toT (dkI σ x).1 p.toInt.toNat) σ else rE xIOB σ) else rE xIOB σ
def sGoes (σ : aSg) (x p k m : Int32) : aRs := if inD σ x then (if inP (dkI σ x).1 p then (if isO k.toInt m.toInt (dkI σ x).1.length then rI (nI (ixOf (layL k.toInt.toNat m.toInt.toNat (dkI σ x).1.length) p.toInt.toNat)) σ else rE xIAE σ) else rE xIOB σ) else rE xIOB σ
def sBest (σ : aSg) (x : Int32) : aRs := if inD σ x then rI (bestV (dkI σ x).1) σ else rE xIOB σ
def sRiffle (σ : aSg) (x : Int32) : aRs := if inD σ x then rI (rifV (dkI σ x).1) σ else rE xIOB σ
