/-! ===== the digest ===== -/
def mixD (d : Int64) (v : Int32) : Int64 := d * 31 + v.toInt64
def dgA (dk : aDk) (d : Int64) : Nat → Int64
  | 0 => d
  | k + 1 => mixD (dgA dk d k) (nI (ofDk dk k))
def dgB (dk : aDk) (d : Int64) : Nat → Int64
  | 0 => d
  | k + 1 => mixD (dgB dk d k) (bI (kpDk dk k))
def dgC (l : List Nat) (d : Int64) : Nat → Int64
  | 0 => d
  | j + 1 => mixD (mixD (mixD (dgC l d j) (nI (l.getD j 0 / 2))) (nI (l.getD (ixOf l (l.getD j 0 / 2)) 0 % 2))) (toT l j)
def dgD (σ : aSg) (d : Int64) (i : Nat) : Int64 :=
  mixD (mixD (mixD (dgC (σ.1.getD i dk0).1 (dgB (σ.1.getD i dk0) (dgA (σ.1.getD i dk0) d 11) 6) (σ.1.getD i dk0).1.length) (bestV (σ.1.getD i dk0).1)) (rifV (σ.1.getD i dk0).1)) (nI (alk (σ.1.getD i dk0).1 (σ.1.getD 0 dk0).1 (min (σ.1.getD i dk0).1.length (σ.1.getD 0 dk0).1.length)))
def dgM (σ : aSg) : Nat → Int64
  | 0 => 58304
  | k + 1 => mixD (dgM σ k) (nI (manyS σ k))
def dgDs (σ : aSg) (d : Int64) : Nat → Int64
  | 0 => d
  | i + 1 => dgD σ (dgDs σ d i) i
def dgSs (σ : aSg) (d : Int64) : Nat → Int64
  | 0 => d
  | j + 1 => mixD (mixD (dgSs σ d j) (nI (ofSq (σ.2.1.getD j []) 0))) (perS (σ.2.1.getD j []) 8)
def digV (σ : aSg) : Int64 := dgSs σ (dgDs σ (dgM σ 6) σ.1.length) σ.2.1.length
