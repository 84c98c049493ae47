/-! ===== the longest rise, as the class reckons it ===== -/
def lowb (a : Nat) : Nat := a &&& (2 ^ 16 - a)
theorem lowb_le {a : Nat} : lowb a ≤ a := Nat.and_le_left
theorem n_lowb {a : Nat} (h : a < 2 ^ 16) : nI a &&& -(nI a) = nI (lowb a) := by
  have e : -(nI a) = nI (2 ^ 32 - a) := by
    apply Int32.toBitVec_inj.1
    show -(BitVec.ofNat 32 a) = BitVec.ofNat 32 (2 ^ 32 - a)
    apply BitVec.eq_of_toNat_eq
    simp only [BitVec.toNat_neg, BitVec.toNat_ofNat]
    omega
  rw [e, n_and]
  congr 1
  unfold lowb
  apply Nat.eq_of_testBit_eq
  intro i
  rw [Nat.testBit_and, Nat.testBit_and]
  by_cases q : i < 16
  · congr 1
    have h1 : (2 ^ 32 - a) % 2 ^ 16 = (2 ^ 16 - a) % 2 ^ 16 := by omega
    have h2 := Nat.testBit_mod_two_pow (2 ^ 32 - a) 16 i
    have h3 := Nat.testBit_mod_two_pow (2 ^ 16 - a) 16 i
    rw [h1, h3] at h2
    simpa [q] using h2.symm
  · have h4 : a.testBit i = false := Nat.testBit_lt_two_pow (Nat.lt_of_lt_of_le h (Nat.pow_le_pow_right (by decide) (by omega)))
    rw [h4]; simp
def stepR (e v : Nat) : Nat := (e ^^^ lowb (e / 2 ^ v * 2 ^ v)) ||| 2 ^ v
theorem stepR_a {e v : Nat} (h : e < 2 ^ 16) : e / 2 ^ v * 2 ^ v < 2 ^ 16 := Nat.lt_of_le_of_lt (Nat.div_mul_le_self _ _) h
theorem stepR_lt {e v : Nat} (h : e < 2 ^ 16) (hv : v < 16) : stepR e v < 2 ^ 16 :=
  Nat.or_lt_two_pow (Nat.xor_lt_two_pow h (Nat.lt_of_le_of_lt lowb_le (stepR_a h))) (Nat.pow_lt_pow_right (by decide) hv)
def rsF (l : List Nat) : Nat → Nat
  | 0 => 0
  | i + 1 => stepR (rsF l i) (l.getD i 0 / 2)
def riseL (l : List Nat) (n : Nat) : Nat := ones (rsF l n) 16
theorem rsF_lt {l : List Nat} {n : Nat} (hc : cOk n l) (hn : n ≤ 16) : ∀ i, i ≤ n → rsF l i < 2 ^ 16 := by
  intro i
  induction i with
  | zero => intro _; show (0 : Nat) < 2 ^ 16; decide
  | succ i ih => intro hi; exact stepR_lt (ih (by omega)) (by have := hc.lt (i := i) (by omega); omega)
/-! ===== what is asked ===== -/
def ofDk (d : aDk) (w : Nat) : Nat := match w with
  | 0 => d.1.length
  | 1 => cyc d.1 d.1.length
  | 2 => fixs d.1 d.1.length
  | 3 => ppd d.1 d.1.length d.1.length
  | 4 => invs d.1 d.1.length
  | 5 => runs d.1 d.1.length
  | 6 => ndr (runs d.1 d.1.length)
  | 7 => ups d.1 d.1.length
  | 8 => d.2.2
  | 9 => lgs d.1 d.1.length d.1.length
  | _ => riseL d.1 d.1.length
def kpDk (d : aDk) (w : Nat) : Bool := match w with
  | 0 => grps d.1 d.1.length 2
  | 1 => grps d.1 d.1.length 4
  | 2 => whol d.1 d.1.length
  | 3 => decide (invs d.1 d.1.length % 2 = 0)
  | 4 => decide (fixs d.1 d.1.length = d.1.length)
  | _ => mirr d.1 d.1.length
def alk (l m : List Nat) : Nat → Nat
  | 0 => 0
  | i + 1 => alk l m i + (if l.getD i 0 / 2 = m.getD i 0 / 2 ∧ decide (l.getD i 0 % 2 = 1) = decide (m.getD i 0 % 2 = 1) then 1 else 0)
def ofSq (st : aSt) (w : Nat) : Nat := if w = 0 then st.length else (st.getD (w - 1) (0, 0)).1 * 100000 + (st.getD (w - 1) (0, 0)).2 % 100000
def perS (st : aSt) (n : Nat) : Int32 := match seqL st n with
  | none => -1
  | some s => nI (fpd s n n)
def sumD (f : aDk → Nat) (ds : List aDk) : Nat → Nat
  | 0 => 0
  | i + 1 => sumD f ds i + f (ds.getD i dk0)
def manyS (σ : aSg) (w : Nat) : Nat := match w with
  | 0 => σ.1.length
  | 1 => σ.2.1.length
  | 2 => sumD (fun d => d.2.2) σ.1 σ.1.length
  | 3 => σ.2.2
  | 4 => sumD (fun d => d.1.length) σ.1 σ.1.length
  | _ => sumD (fun d => ups d.1 d.1.length) σ.1 σ.1.length
def sOfDeck (σ : aSg) (x w : Int32) : aRs := if inD σ x then (if wIn w 0 10 then rI (nI (ofDk (dkI σ x) w.toInt.toNat)) σ else rE xIAE σ) else rE xIOB σ
def sKeeps (σ : aSg) (x w : Int32) : aRs := if inD σ x then (if wIn w 0 5 then rI (bI (kpDk (dkI σ x) w.toInt.toNat)) σ else rE xIAE σ) else rE xIOB σ
def sAlike (σ : aSg) (x y : Int32) : aRs := if inD σ x then (if inD σ y then rI (nI (alk (dkI σ x).1 (dkI σ y).1 (min (dkI σ x).1.length (dkI σ y).1.length))) σ else rE xIOB σ) else rE xIOB σ
def sOfSeq (σ : aSg) (x w : Int32) : aRs := if inS σ x then (if wIn w 0 (sqI σ x).length then rI (nI (ofSq (sqI σ x) w.toInt.toNat)) σ else rE xIAE σ) else rE xIOB σ
def sPeriod (σ : aSg) (x n : Int32) : aRs := if inS σ x then (if wIn n 2 16 then rI (perS (sqI σ x) n.toInt.toNat) σ else rE xIAE σ) else rE xIOB σ
def sMany (σ : aSg) (w : Int32) : aRs := if wIn w 0 5 then rI (nI (manyS σ w.toInt.toNat)) σ else rE xIAE σ
theorem wIn_i {w b : Nat} (h : w ≤ b) (hb : b < 2 ^ 31) : wIn (nI w) 0 b = true := by
  unfold wIn
  rw [nI_toInt (by omega)]
  exact decide_eq_true ⟨by omega, by omega⟩
theorem inP_i {l : List Nat} {j : Nat} (h : j < l.length) (hl : l.length ≤ 16) : inP l (nI j) = true := by
  unfold inP
  rw [nI_toInt (by omega)]
  exact decide_eq_true ⟨by omega, by omega⟩
theorem ixOf_at {n : Nat} {l : List Nat} (ha : cAll n l) {x : Nat} (hx : x < n) : ixOf l x < l.length ∧ l.getD (ixOf l x) 0 / 2 = x := by
  obtain ⟨j, hj, hjx⟩ := ha x hx
  have h1 : ixOf l x < l.length := List.findIdx_lt_length_of_exists ⟨l[j], List.getElem_mem hj, by rw [← gD_eq hj]; simpa using hjx⟩
  refine ⟨h1, ?_⟩
  have h2 := List.findIdx_getElem (w := h1)
  rw [gD_eq h1]
  exact beq_iff_eq.mp h2
theorem runs_le {l : List Nat} {n : Nat} : runs l n ≤ n ∨ n = 0 := by
  have := ct_le (fun i => decide (ixOf l (i + 1) < ixOf l i)) (n - 1)
  unfold runs
  omega
theorem fixs_le {l : List Nat} {n : Nat} : fixs l n ≤ n := ct_le _ _
theorem invs_lt {l : List Nat} {n : Nat} (hc : cOk n l) (hn : n ≤ 16) : invs l n < 2 ^ 31 := by
  have h1 : ∀ k, sm (fun k => ct (fun j => decide (k < j) && decide (cd l j < cd l k)) n) k ≤ k * n := by
    intro k
    induction k with
    | zero => simp [sm]
    | succ k ih =>
      have := ct_le (fun j => decide (k < j) && decide (cd l j < cd l k)) n
      simp only [sm, Nat.succ_mul]
      omega
  have h2 := h1 n
  have h3 : n * n ≤ 16 * 16 := Nat.mul_le_mul hn hn
  unfold invs
  omega
