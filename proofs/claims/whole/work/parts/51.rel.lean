/-! what class and reference hold in common between two calls: the class' rows beside the reference's arrays -/
/-- x is one of 0 .. k-1 -/
def inN (x : Int32) (k : Nat) : Prop := ∃ v, v < k ∧ x = nI v
/-- mounts -/
def RMt (many : Int32) (cells st : Nat → Int32) (o nD : Nat) : Prop :=
  many = nI nD ∧ ∀ d, d < nD → cells (4 * d) = st (o + 3 + d) ∧ inN (st (o + 3 + d)) 8
/-- lendings -/
def RLe (many : Int32) (cells st : Nat → Int32) (o nD nA nL : Nat) : Prop :=
  many = nI nL ∧ nL ≤ 12 ∧ st o = nI nL ∧ ∀ i, i < nL → (cells (4 * i) = st (o + 8 + 3 * i) ∧ inN (st (o + 8 + 3 * i)) nD) ∧ (cells (4 * i + 1) = st (o + 8 + 3 * i + 1) ∧ inN (st (o + 8 + 3 * i + 1)) 24) ∧ (cells (4 * i + 2) = st (o + 8 + 3 * i + 2) ∧ inN (st (o + 8 + 3 * i + 2)) nA)
/-- the log -/
def RLo (many : Int32) (cells st : Nat → Int32) (o nD nG : Nat) : Prop :=
  many = nI nG ∧ nG ≤ 10 ∧ st (o + 1) = nI nG ∧ ∀ i, i < nG → (cells (4 * i) = st (o + 44 + 4 * i) ∧ inN (st (o + 44 + 4 * i)) 24) ∧ (cells (4 * i + 1) = st (o + 44 + 4 * i + 1) ∧ inN (st (o + 44 + 4 * i + 1)) nD) ∧ (cells (4 * i + 2) = st (o + 44 + 4 * i + 2) ∧ inN (st (o + 44 + 4 * i + 2)) 10) ∧ (cells (4 * i + 3) = st (o + 44 + 4 * i + 3) ∧ inN (st (o + 44 + 4 * i + 3)) 2)
/-- how many of the first n that may be undone are lendings -/
def cntU (st : Nat → Int32) (o : Nat) : Nat → Nat
  | 0 => 0
  | n + 1 => cntU st o n + if st (o + 84 + 2 * n) = -1 then 1 else 0
/-- what may be undone -/
def RUn (many : Int32) (cells st : Nat → Int32) (o nD nL nU : Nat) : Prop :=
  many = nI nU ∧ nU ≤ 10 ∧ st (o + 2) = nI nU ∧ cntU st o nU ≤ nL ∧ ∀ i, i < nU → cells (4 * i) = st (o + 84 + 2 * i) ∧ cells (4 * i + 1) = st (o + 84 + 2 * i + 1) ∧ (st (o + 84 + 2 * i) = -1 ∨ (inN (st (o + 84 + 2 * i)) nD ∧ inN (st (o + 84 + 2 * i + 1)) 8))
def RNow (mm : Int32) (mc : Nat → Int32) (lm : Int32) (lc : Nat → Int32) (gm : Int32) (gc : Nat → Int32) (um : Int32) (uc st : Nat → Int32) (o nD nA : Nat) : Prop :=
  RMt mm mc st o nD ∧ ∃ nL nG nU : Nat, RLe lm lc st o nD nA nL ∧ RLo gm gc st o nD nG ∧ RUn um uc st o nD nL nU
def RAs (many : Int32) (cells : Nat → Int32) (n6 : Int32) (ak : Nat → Int32) (nA : Nat) : Prop :=
  nA ≤ 5 ∧ many = nI nA ∧ n6 = nI nA ∧ ∀ i, i < nA → (cells (4 * i) = ak (2 * i) ∧ inN (ak (2 * i)) 8) ∧ (cells (4 * i + 1) = ak (2 * i + 1) ∧ inN (ak (2 * i + 1)) 10 ∧ ¬ ak (2 * i + 1) = 0)
def RSp (many : Int32) (cells : Nat → Int32) (n6 : Int32) (sp : Nat → Int32) (nS : Nat) : Prop :=
  nS ≤ 5 ∧ many = nI nS ∧ n6 = nI nS ∧ ∀ i, i < nS → (cells (4 * i) = sp (4 * i) ∧ inN (sp (4 * i)) 8) ∧ (cells (4 * i + 1) = sp (4 * i + 1) ∧ inN (sp (4 * i + 1)) 10) ∧ (cells (4 * i + 2) = sp (4 * i + 2) ∧ inN (sp (4 * i + 2)) 24) ∧ (cells (4 * i + 3) = sp (4 * i + 3) ∧ inN (sp (4 * i + 3)) 24)
def RNo (many : Int32) (cells : Nat → Int32) (n6 : Int32) (no : Nat → Int32) (nN : Nat) : Prop :=
  nN ≤ 3 ∧ many = nI nN ∧ n6 = nI nN ∧ ∀ i, i < nN → (cells (4 * i) = no (3 * i) ∧ inN (no (3 * i)) 10) ∧ (cells (4 * i + 1) = no (3 * i + 1) ∧ inN (no (3 * i + 1)) 13 ∧ ¬ no (3 * i + 1) = 0) ∧ (cells (4 * i + 2) = no (3 * i + 2) ∧ inN (no (3 * i + 2)) 12)
/-- the text -/
def RTx (len : Int32) (bytes : Nat → Int32) (n6 : Int32) (tx : Nat → Int32) : Prop :=
  ∃ nT : Nat, nT ≤ 250 ∧ len = nI nT ∧ n6 = nI nT ∧ ∀ i, i < nT → bytes i = tx i ∧ inN (tx i) 256
/-- images -/
def RIm (kept : Int32) (isK im : Nat → Int32) (am : Int32) (ac : Nat → Int32) (bm : Int32) (bc : Nat → Int32) (cm : Int32) (cc : Nat → Int32) (dm : Int32) (dc : Nat → Int32) (am' : Int32) (ac' : Nat → Int32) (bm' : Int32) (bc' : Nat → Int32) (cm' : Int32) (cc' : Nat → Int32) (dm' : Int32) (dc' : Nat → Int32) (nD nA : Nat) : Prop :=
  ((isK 0 = 0 ∧ isK 1 = 0 ∧ kept = 0) ∨ (isK 0 = 1 ∧ isK 1 = 0 ∧ kept = 1) ∨ (isK 0 = 0 ∧ isK 1 = 1 ∧ kept = 2) ∨ (isK 0 = 1 ∧ isK 1 = 1 ∧ kept = 3)) ∧
  (isK 0 = 1 → RNow am ac bm bc cm cc dm dc im 0 nD nA) ∧ (isK 1 = 1 → RNow am' ac' bm' bc' cm' cc' dm' dc' im 104 nD nA)
def Rmost (sc : Nat → Int32) : Prop := sc 1 = 5 ∧ sc 3 = 5 ∧ sc 5 = 3 ∧ sc 7 = 5 ∧ sc 9 = 12 ∧ sc 11 = 10 ∧ sc 13 = 5 ∧ sc 15 = 10 ∧ sc 17 = 12 ∧ sc 19 = 10 ∧ sc 21 = 5 ∧ sc 23 = 10 ∧ sc 25 = 12 ∧ sc 27 = 10 ∧ sc 29 = 5 ∧ sc 31 = 10 ∧ sc 38 = 5 ∧ sc 40 = 5 ∧ sc 42 = 3 ∧ sc 44 = 5
/-- what holds between two calls -/
def Rel (sc : Nat → Int32) (ar : Nat → Nat → Int32) (lg : Nat → Int64) : Prop :=
  Rmost sc ∧ lg 0 = lg 1 ∧ RTx (sc 33) (ar 19) (sc 50) (ar 35) ∧
  ∃ nD nA nS nN : Nat, nD ≤ 5 ∧ sc 46 = nI nD ∧ RAs (sc 39) (ar 20) (sc 49) (ar 24) nA ∧ RSp (sc 45) (ar 23) (sc 47) (ar 33) nS ∧ RNo (sc 43) (ar 22) (sc 48) (ar 27) nN ∧
  RNow (sc 30) (ar 14) (sc 26) (ar 12) (sc 28) (ar 13) (sc 32) (ar 15) (ar 34) 0 nD nA ∧ RIm (sc 0) (ar 26) (ar 25) (sc 22) (ar 10) (sc 18) (ar 8) (sc 20) (ar 9) (sc 24) (ar 11) (sc 14) (ar 6) (sc 10) (ar 4) (sc 12) (ar 5) (sc 16) (ar 7) nD nA
