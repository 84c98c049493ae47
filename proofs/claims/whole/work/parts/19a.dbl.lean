/-! ===== doubles ===== -/
section ADBL
variable {G : aG} {mm : aM} {tb : List (Nat × Nat × Nat × Nat)} {R : Room} {Qf : aQf} {cells slots : Nat} {h : aH} {nx pc idx : Nat} {L : aL} {st rest : List Value}
theorem aw_i2d {x : Int32} (hd : decode mm.2.1 pc = .ok (.i2d, 1)) (kk : aw G mm tb R Qf cells slots h nx (pc + 1) L (.double (FP.i2d x) :: st)) : aw G mm tb R Qf cells slots h nx pc L (.int x :: st) := by
  intro p l e s m args below meth c H locs ls C RR Z S V
  exact lv_i2d C.1 C.2.1 hd (kk p l e s m args below meth c H locs ls C RR Z S V)
theorem aw_mabs {x : Int32} (hl : Cond.methodLink mm.1.cls idx Lib.Math.abs.name ∈ lw_tbl) (hsx : Cond.static Lib.Math.abs.name ∈ lw_tbl) (hi : Cond.initialized "java/lang/Math" ∈ lw_tbl) (hco : Cond.code Lib.Math.abs.name Lib.Math.abs.code 1 (some .int) ∈ lw_tbl) (hfr : 1 ≤ R.frames) (hlo : (rest.map fun v => v.category).sum + 13 ≤ R.locals) (h1 : cells ≤ R.cells) (h2 : slots ≤ R.slots) (hd : decode mm.2.1 pc = .ok (.invokestatic idx, 3)) (kk : aw G mm tb R Qf cells slots h nx (pc + 3) L (.int (if 0 ≤ x then x else 0 - x) :: rest)) : aw G mm tb R Qf cells slots h nx pc L (.int x :: rest) := by
  intro p l e s m args below meth c H locs ls C RR Z S V
  have hts := C.2.2.2.2.1
  exact va_mabs C.1 C.2.1 (C.2.2.1.trans V.1.symm) C.2.2.2.1 (hts _ (aWd_of hl rfl)) (hts _ (aWd_of hsx rfl)) (hts _ (aWd_of hi rfl)) (hts _ (aWd_of hco rfl)) hfr hlo h1 h2 hd (kk p l e s m args below meth c H locs ls C RR Z S V)
end ADBL
def n64b (x : UInt64) : Bool := decide (x &&& 0x7fffffffffffffff ≤ 0x7ff0000000000000)
def ch1 (p r i : Nat) (x : UInt64) : UInt64 := FP.dmul x (FP.i2d (nI (p - r + (i + 1))))
def ch2 (p r i : Nat) (x : UInt64) : UInt64 := FP.ddiv (ch1 p r i x) (FP.i2d (nI (i + 1)))
def ch3 (p r i : Nat) (x : UInt64) : UInt64 := FP.ddiv (ch2 p r i x) (FP.i2d (nI p))
def chF (p r : Nat) : Nat → UInt64
  | 0 => FP.dconst1
  | i + 1 => ch3 p r i (chF p r i)
def chC (p r : Nat) : Nat → Nat → UInt64 → Bool
  | 0, _, _ => true
  | f + 1, i, x => n64b (ch1 p r i x) && n64b (ch2 p r i x) && (let y := ch3 p r i x; n64b y && chC p r f (i + 1) y)
theorem ch_all : ∀ k : Nat, k < 13 → ∀ r : Nat, r < 17 → 0 < r → r ≤ 2 ^ k → chC (2 ^ k) r 16 0 FP.dconst1 = true := by decide +kernel
theorem far_all : ∀ a : Nat, a < 241 → ∀ b : Nat, b < 17 → 2 ≤ b → n64b (FP.ddiv (FP.i2d (nI a)) (FP.i2d (nI b))) = true := by decide +kernel
