/-! ===== what the model's ways are, place by place ===== -/
theorem wy_0 : ∀ n, n < 17 → ∀ m : Nat, m < 17 → isO 0 m n = true → ∀ i, i < n → (layL 0 m n).getD i 0 / 2 = (i + m) % n := by decide +kernel
theorem wy_1 : ∀ n, n < 17 → isO 1 (0 : Nat) n = true → ∀ i, i < n → (layL 1 0 n).getD i 0 / 2 = if i % 2 = 0 then 0 + i / 2 else n / 2 - 0 + i / 2 := by decide +kernel
theorem wy_2 : ∀ n, n < 17 → isO 2 (0 : Nat) n = true → ∀ i, i < n → (layL 2 0 n).getD i 0 / 2 = if i % 2 = 0 then n / 2 + i / 2 else n / 2 - n / 2 + i / 2 := by decide +kernel
def mgP (n c : Nat) : Nat := if c % 2 = 1 then n / 2 - 1 - c / 2 else n / 2 + c / 2
theorem wy_3 : ∀ n, n < 17 → isO 3 (0 : Nat) n = true → ∀ i, i < n → mgP n i < n ∧ (layL 3 0 n).getD (mgP n i) 0 / 2 = i ∧ mgP n ((layL 3 0 n).getD i 0 / 2) = i := by decide +kernel
theorem wy_4 : ∀ n, n < 17 → isO 4 (0 : Nat) n = true → (∀ k, k < n / 2 → (layL 4 0 n).getD (n - 2 * k - 2) 0 / 2 = k ∧ (layL 4 0 n).getD (n - 2 * k - 2 + 1) 0 / 2 = n - 1 - k) ∧ (n % 2 = 1 → (layL 4 0 n).getD 0 0 / 2 = n / 2) := by decide +kernel
theorem wy_6 : ∀ n, n < 17 → ∀ m : Nat, m < 17 → isO 6 m n = true → ∀ i, i < n → (layL 6 m n).getD i 0 / 2 = (if i < m then m - 1 - i else i) := by decide +kernel
theorem wy_7 : ∀ n, n < 17 → ∀ m : Nat, m < 17 → isO 7 m n = true → ∀ i, i < n → (layL 7 m n).getD i 0 / 2 = (if i < m then m - 1 - i else i) ∧ decide ((layL 7 m n).getD i 0 % 2 = 1) = decide (i < m) := by decide +kernel
theorem lay_small3 : ∀ n : Nat, n < 17 → ∀ m : Nat, m < 17 → ∀ k : Nat, k < 7 → isO k m n = true → (layL k m n).all (fun c => decide (c % 2 = 0)) = true := by decide +kernel
theorem spn_even {a b : Nat} : ∀ c ∈ spn a b, c % 2 = 0 := by
  intro c hc
  obtain ⟨i, -, rfl⟩ := List.mem_map.mp hc
  omega
theorem rif_even {m n : Nat} : ∀ k, ∀ c ∈ rif m n k, c % 2 = 0 := by
  intro k
  induction k with
  | zero => intro c hc; exact absurd hc List.not_mem_nil
  | succ k ih =>
    intro c hc
    rcases List.mem_append.mp hc with q | q
    · exact ih c q
    · rw [List.mem_singleton.mp q]; omega
theorem pck_even {m : Nat} : ∀ k e, ∀ c ∈ pck m k e, c % 2 = 0 := by
  intro k
  induction k with
  | zero => intro e c hc; exact spn_even c hc
  | succ k ih =>
    intro e c hc
    unfold pck at hc
    split at hc
    · rcases List.mem_append.mp hc with q | q
      · exact spn_even c q
      · exact ih _ c q
    · exact ih _ c hc
theorem lay_even {k m n : Nat} (h : isO k m n = true) (hk : k ≠ 7) : ∀ i, i < n → (layL k m n).getD i 0 % 2 = 0 := by
  intro i hi
  have hl := (lay_cOk h).1
  obtain ⟨hn, h1⟩ := of_decide_eq_true h
  have hm : (layL k m n).getD i 0 ∈ layL k m n := by rw [gD_eq (by omega)]; exact List.getElem_mem _
  by_cases q : k < 7
  · have g := lay_small3 n (by omega) m (by omega) k q h
    exact of_decide_eq_true (List.all_eq_true.mp g _ hm)
  · by_cases q8 : k = 8
    · subst q8; exact rif_even n _ hm
    · have q9 : k = 9 := by omega
      subst q9
      exact pck_even (n - 1) n _ hm
theorem way_end {h1 : aH} {w k m n : Nat} {f g : Nat → Int32} (hO : isO k m n = true) (hk : k ≠ 7) (q1 : h1 w = some (.inr (7, [.ref (w + 1), .ref (w + 2)]))) (q2 : h1 (w + 1) = some (.inl (0, n, .inl f))) (q3 : h1 (w + 2) = some (.inl (1, n, .inl g))) (hf : ∀ i, i < n → f i = nI ((layL k m n).getD i 0 / 2)) (hg : ∀ i, i < n → g i = bI false) : WayAt h1 w (layL k m n) := by
  have hl := (lay_cOk hO).1
  refine ⟨f, g, q1, by rw [hl]; exact q2, by rw [hl]; exact q3, fun i hi => ⟨hf i (by omega), ?_⟩⟩
  rw [hg i (by omega), decide_eq_false (by rw [lay_even hO hk i (by omega)]; omega)]
theorem nI_dec2 : ∀ a, a < 17 → 2 ≤ a → nI a + (-2) = nI (a - 2) := by decide +kernel
theorem dls_pre {m n a : Nat} : ∀ b, a ≤ b → ∃ t, dls m n b = dls m n a ++ t := by
  intro b
  induction b with
  | zero => intro h; exact ⟨[], by rw [show a = 0 by omega]; rfl⟩
  | succ b ih =>
    intro h
    rcases Nat.lt_or_ge a (b + 1) with q | q
    · obtain ⟨t, e⟩ := ih (by omega)
      exact ⟨t ++ dsc (fun i => decide (i % m = b)) 0 n, by simp only [dls]; rw [e, List.append_assoc]⟩
    · exact ⟨[], by rw [show a = b + 1 by omega, List.append_nil]⟩
/-- the first places of a row are filled -/
def fillA (f : Nat → Int32) (l : List Nat) : Prop := ∀ i, i < l.length → f i = nI (l.getD i 0 / 2)
theorem fillA_nil {f : Nat → Int32} : fillA f [] := fun i hi => absurd hi (Nat.not_lt_zero _)
theorem fillA_add {f : Nat → Int32} {l : List Nat} {x c : Nat} (h : fillA f l) (hc : c / 2 = x) : fillA (upd f l.length (nI x)) (l ++ [c]) := by
  intro i hi
  rw [List.length_append] at hi
  unfold upd
  by_cases q : i = l.length
  · rw [if_pos q, q, gD_r, hc]
  · have hi2 : i < l.length := by simp at hi; omega
    rw [if_neg q, gD_l hi2]; exact h i hi2
theorem pck_zero {m b : Nat} : ∀ j e, b ≤ j → (∀ i, b ≤ i → i < j → m.testBit i = false) → pck m j e = pck m b e := by
  intro j
  induction j with
  | zero => intro e hb _; rw [show b = 0 by omega]
  | succ j ih =>
    intro e hb hz
    rcases Nat.lt_or_ge j b with q | q
    · rw [show b = j + 1 by omega]
    · rw [pck, if_neg (by rw [hz j q (by omega)]; decide)]
      exact ih e q (fun i h1 h2 => hz i h1 (by omega))
/-- the packet from b to k is on top of those before -/
theorem pck_top {m b k : Nat} (hb : b ≤ k) (hz : ∀ i, b ≤ i → i < k → m.testBit i = false) (hs : b = 0 ∨ m.testBit (b - 1) = true) : pck m k (k + 1) = spn b (k + 1) ++ (if b = 0 then [] else pck m (b - 1) b) := by
  rw [pck_zero k (k + 1) hb hz]
  by_cases q : b = 0
  · subst q; simp [pck]
  · obtain ⟨c, rfl⟩ : ∃ c, b = c + 1 := ⟨b - 1, by omega⟩
    rw [if_neg q, pck, if_pos (by rcases hs with z | z; exact absurd z q; exact z)]
    rfl
theorem gD_app {a b : List Nat} {i : Nat} : (a ++ b).getD i 0 = if i < a.length then a.getD i 0 else b.getD (i - a.length) 0 := by
  by_cases q : i < a.length
  · rw [if_pos q]; simp [List.getD, List.getElem?_append_left q]
  · rw [if_neg q]; simp [List.getD, List.getElem?_append_right (Nat.le_of_not_lt q)]
theorem spn_at {a b i : Nat} (h : i < b - a) : (spn a b).getD i 0 = 2 * (a + i) := by
  unfold spn
  rw [gD_map (by simpa using h)]
  simp [List.getD, h]
