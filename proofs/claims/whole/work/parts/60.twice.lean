/-! twice: the first that is lent twice; in vain -/
def cnt (P : Nat → Bool) : Nat → Nat
  | 0 => 0
  | n + 1 => cnt P n + if P n = true then 1 else 0
theorem cnt_le (P : Nat → Bool) : ∀ n, cnt P n ≤ n := by
  intro n
  induction n with
  | zero => exact Nat.le_refl _
  | succ n ih =>
    rw [cnt]
    by_cases h : P n = true
    · rw [if_pos h]; omega
    · rw [if_neg h]; omega
/-- lending i is in vain -/
def vainP (mc ac lc : Nat → Int32) (nD nA : Nat) (i : Nat) : Bool := !decide (f_X0_placeSeen (nI nD) mc (lc (4 * i)) (lc (4 * i + 1)) = f_X2_number (nI nA) ac (lc (4 * i + 2)) 0)
theorem vain5 {mc ac lc : Nat → Int32} {nD nA nL : Nat} (hL : nL ≤ 12) : ∀ j i, i + j = nL → ∀ n, j < n → f_X5_lentInVain_L4 (nI nL) lc (nI nD) mc (nI nA) ac n (nI (cnt (vainP mc ac lc nD nA) i)) (nI i) = some (nI (cnt (vainP mc ac lc nD nA) nL)) := by
  intro j
  induction j with
  | zero =>
    intro i hi n hn
    obtain ⟨n, rfl⟩ : ∃ z, n = z + 1 := ⟨n - 1, by omega⟩
    obtain rfl : i = nL := by omega
    rw [f_X5_lentInVain_L4, if_pos (nI_le (Nat.le_refl _) (by omega))]
  | succ j ih =>
    intro i hi n hn
    obtain ⟨n, rfl⟩ : ∃ z, n = z + 1 := ⟨n - 1, by omega⟩
    rw [f_X5_lentInVain_L4, if_neg (nI_ge (by omega) (by omega)), e_num0 (by omega) hL, e_num1 (by omega) hL, e_num2 (by omega) hL]
    have hs := ih (i + 1) (by omega) n (by omega)
    rw [cnt] at hs
    by_cases hP : f_X0_placeSeen (nI nD) mc (lc (4 * i)) (lc (4 * i + 1)) = f_X2_number (nI nA) ac (lc (4 * i + 2)) 0
    · have hb : ¬ vainP mc ac lc nD nA i = true := by simp [vainP, hP]
      rw [if_neg hb, Nat.add_zero] at hs
      rw [if_pos hP, f_X5_lentInVain_J80, nI_1]
      exact hs
    · have hb : vainP mc ac lc nD nA i = true := by simp [vainP, hP]
      rw [if_pos hb] at hs
      rw [if_neg hP, f_X5_lentInVain_J80, nI_1, nI_1]
      exact hs
theorem vain6 {mc ac lc st ak : Nat → Int32} {nD nA nL : Nat} {um n6 : Int32} (hD : nD ≤ 5) (hMt : RMt (nI nD) mc st 0 nD) (hA : RAs um ac n6 ak nA) (hLe : RLe (nI nL) lc st 0 nD nA nL) : ∀ j i, i + j = nL → ∀ n, j < n → f_X6_inVain_L4 ak st n (nI (cnt (vainP mc ac lc nD nA) i)) (nI i) = some (nI (cnt (vainP mc ac lc nD nA) nL)) := by
  have hL := hLe.2.1
  have g3 : st (Int32.toNatClampNeg 0) = nI nL := hLe.2.2.1
  intro j
  induction j with
  | zero =>
    intro i hi n hn
    obtain ⟨n, rfl⟩ : ∃ z, n = z + 1 := ⟨n - 1, by omega⟩
    obtain rfl : i = nL := by omega
    rw [f_X6_inVain_L4, g3, if_pos (nI_le (Nat.le_refl _) (by omega))]
  | succ j ih =>
    intro i hi n hn
    obtain ⟨n, rfl⟩ : ∃ z, n = z + 1 := ⟨n - 1, by omega⟩
    obtain ⟨⟨c0, d, hd, s0⟩, ⟨c1, h, hh, s1⟩, ⟨c2, a, ha, s2⟩⟩ := hLe.2.2.2 i (by omega)
    rw [Nat.zero_add] at c0 c1 c2 s0 s1 s2
    obtain ⟨mc0, v, hv, ms⟩ := hMt.2 d hd
    rw [Nat.zero_add] at mc0 ms
    obtain ⟨⟨a0, pl, hpl, as⟩, -⟩ := hA.2.2.2 a ha
    have i0 : (8 : Int32) + 3 * nI i = nI (8 + 3 * i) := by rw [show (8 : Int32) = nI 8 from rfl, show (3 : Int32) = nI 3 from rfl, pk_mul, nI_add]
    have i1 : nI (8 + 3 * i) + 1 = nI (8 + 3 * i + 1) := nI_1 _
    have i2 : nI (8 + 3 * i) + 2 = nI (8 + 3 * i + 2) := nI_add _ 2
    have i4 : (2 : Int32) * nI a = nI (2 * a) := pk_mul 2 a
    have hA5 := hA.1
    rw [f_X6_inVain_L4, g3, if_neg (nI_ge (by omega) (by omega)), i0, i1, i2, if_neg (in_row (by omega) (by decide)), if_neg (in_row (by omega) (by decide)), nI_clamp (n := 8 + 3 * i) (by omega), nI_clamp (n := 8 + 3 * i + 1) (by omega), nI_clamp (n := 8 + 3 * i + 2) (by omega), s0, s1, s2, e_looksOf (by omega) hv hh ms, Option.bind_some, if_neg (in_row2 (a := 8 + 3 * i + 2) (n := 104) (by omega) (by decide)), i4, if_neg (in_row (by omega) (by decide)), nI_clamp (n := 2 * a) (by omega)]
    have e5 : f_X0_placeSeen (nI nD) mc (lc (4 * i)) (lc (4 * i + 1)) = nI (lk v h) := by rw [c0, c1, s0, s1]; exact e_place hd hD hv hh (mc0.trans ms)
    have e6 : f_X2_number (nI nA) ac (lc (4 * i + 2)) 0 = ak (2 * a) := by rw [c2, s2, e_num0 ha (by omega)]; exact a0
    have hs := ih (i + 1) (by omega) n (by omega)
    rw [cnt] at hs
    by_cases hP : nI (lk v h) = ak (2 * a)
    · have hb : ¬ vainP mc ac lc nD nA i = true := by simp [vainP, e5, e6, hP]
      rw [if_neg hb, Nat.add_zero] at hs
      rw [if_pos hP, f_X6_inVain_J63, nI_1, show nI (cnt (vainP mc ac lc nD nA) i) + 0 = nI (cnt (vainP mc ac lc nD nA) i) from nI_add _ 0]
      exact hs
    · have hb : vainP mc ac lc nD nA i = true := by simp [vainP, e5, e6, hP]
      rw [if_pos hb] at hs
      rw [if_neg hP, f_X6_inVain_J63, nI_1, nI_1]
      exact hs
def anyB (P : Nat → Bool) : Nat → Bool
  | 0 => false
  | n + 1 => anyB P n || P n
theorem anyB_no {P : Nat → Bool} : ∀ n, (∀ j, j < n → P j = false) → anyB P n = false := by
  intro n
  induction n with
  | zero => intro _; rfl
  | succ n ih => intro h; rw [anyB, ih (fun j hj => h j (by omega)), h n (by omega)]; rfl
theorem anyB_yes {P : Nat → Bool} {j : Nat} (hj : P j = true) : ∀ n, j < n → anyB P n = true := by
  intro n
  induction n with
  | zero => intro h; exact absurd h (Nat.not_lt_zero _)
  | succ n ih =>
    intro h
    rw [anyB]
    by_cases hn : j = n
    · rw [← hn, hj, Bool.or_true]
    · rw [ih (by omega), Bool.true_or]
/-- the first from i on, r of them, else a -/
def fstA (H : Nat → Bool) (a : Int32) : Nat → Nat → Int32
  | 0, _ => a
  | r + 1, i => if H i = true then nI i else fstA H a r (i + 1)
theorem fstA_snoc {H : Nat → Bool} {a : Int32} : ∀ r i, fstA H a (r + 1) i = fstA H (if H (i + r) = true then nI (i + r) else a) r i := by
  intro r
  induction r with
  | zero => intro i; rfl
  | succ r ih =>
    intro i
    rw [fstA, ih (i + 1), show i + 1 + r = i + (r + 1) by omega]
    rfl
/-- lendings i and j are of one dish and hour -/
def sameP (lc : Nat → Int32) (i j : Nat) : Bool := decide (lc (4 * i) = lc (4 * j)) && decide (lc (4 * i + 1) = lc (4 * j + 1))
theorem first5in {lc : Nat → Int32} {nL i : Nat} {K : Option Int32} (hL : nL ≤ 12) (hi : i < nL) : ∀ r j, j + r = i → (∀ k, k < j → sameP lc i k = false) → ∀ n, r < n → f_X0_firstLentTwice_L15 K (nI i) (nI nL) lc n (nI j) = if anyB (sameP lc i) i = true then some (nI i) else K := by
  intro r
  induction r with
  | zero =>
    intro j hj hno n hn
    obtain ⟨n, rfl⟩ : ∃ z, n = z + 1 := ⟨n - 1, by omega⟩
    obtain rfl : j = i := by omega
    rw [f_X0_firstLentTwice_L15, if_pos (nI_le (Nat.le_refl _) (by omega)), anyB_no j hno, if_neg (by decide)]
  | succ r ih =>
    intro j hj hno n hn
    obtain ⟨n, rfl⟩ : ∃ z, n = z + 1 := ⟨n - 1, by omega⟩
    rw [f_X0_firstLentTwice_L15, if_neg (nI_ge (by omega) (by omega)), e_num0 hi hL, e_num0 (by omega) hL]
    have go : sameP lc i j = false → f_X0_firstLentTwice_L15 K (nI i) (nI nL) lc n (nI j + 1) = if anyB (sameP lc i) i = true then some (nI i) else K := fun hs => by
      rw [nI_1]
      refine ih (j + 1) (by omega) (fun k hk => ?_) n (by omega)
      by_cases hkj : k = j
      · rw [hkj]; exact hs
      · exact hno k (by omega)
    by_cases c0 : lc (4 * i) = lc (4 * j)
    · rw [if_pos c0, f_X0_firstLentTwice_J46, if_neg (by decide), e_num1 hi hL, e_num1 (by omega) hL]
      by_cases c1 : lc (4 * i + 1) = lc (4 * j + 1)
      · rw [if_pos c1, anyB_yes (j := j) (by simp [sameP, c0, c1]) i (by omega), if_pos rfl]
      · rw [if_neg c1, f_X0_firstLentTwice_J74]
        exact go (by simp [sameP, c1])
    · rw [if_neg c0, f_X0_firstLentTwice_J46, if_pos rfl, f_X0_firstLentTwice_J74]
      exact go (by simp [sameP, c0])
theorem first5 {lc : Nat → Int32} {nL : Nat} (hL : nL ≤ 12) : ∀ r i, i + r = nL → ∀ n, r < n → f_X0_firstLentTwice_L2 (nI nL) lc n (nI i) = some (fstA (fun i => anyB (sameP lc i) i) (-9) r i) := by
  intro r
  induction r with
  | zero =>
    intro i hi n hn
    obtain ⟨n, rfl⟩ : ∃ z, n = z + 1 := ⟨n - 1, by omega⟩
    rw [f_X0_firstLentTwice_L2, if_pos (nI_le (by omega) (by omega))]
    rfl
  | succ r ih =>
    intro i hi n hn
    obtain ⟨n, rfl⟩ : ∃ z, n = z + 1 := ⟨n - 1, by omega⟩
    rw [f_X0_firstLentTwice_L2, if_neg (nI_ge (by omega) (by omega))]
    have h := first5in (lc := lc) (K := f_X0_firstLentTwice_X80 (f_X0_firstLentTwice_L2 (nI nL) lc n) (nI i) (nI nL) lc) hL (i := i) (by omega) i 0 (by omega) (fun k hk => absurd hk (Nat.not_lt_zero _)) FU (show i < 1000 by omega)
    rw [show (0 : Int32) = nI 0 from rfl, h, fstA]
    by_cases hb : anyB (sameP lc i) i = true
    · rw [if_pos hb, if_pos hb]
    · rw [if_neg hb, if_neg hb, f_X0_firstLentTwice_X80, nI_1]
      exact ih (i + 1) (by omega) n (by omega)
theorem first6in {lc st : Nat → Int32} {nD nA nL i : Nat} {K : Int32 → Option Int32} {a0 : Int32} (hLe : RLe (nI nL) lc st 0 nD nA nL) (hi : i < nL) : ∀ r j, j + r = i → ∀ n, r < n → f_X6_firstTwice_L18 K (nI i) st n (if anyB (sameP lc i) j = true then nI i else a0) (nI j) = K (if anyB (sameP lc i) i = true then nI i else a0) := by
  have hL := hLe.2.1
  intro r
  induction r with
  | zero =>
    intro j hj n hn
    obtain ⟨n, rfl⟩ : ∃ z, n = z + 1 := ⟨n - 1, by omega⟩
    obtain rfl : j = i := by omega
    rw [f_X6_firstTwice_L18, if_pos (nI_le (Nat.le_refl _) (by omega))]
  | succ r ih =>
    intro j hj n hn
    obtain ⟨n, rfl⟩ : ∃ z, n = z + 1 := ⟨n - 1, by omega⟩
    have e3 : ∀ k : Nat, (8 : Int32) + 3 * nI k = nI (8 + 3 * k) := fun k => by rw [show (8 : Int32) = nI 8 from rfl, show (3 : Int32) = nI 3 from rfl, pk_mul, nI_add]
    have e4 : ∀ k : Nat, nI (8 + 3 * k) + 1 = nI (8 + 3 * k + 1) := fun k => nI_1 _
    obtain ⟨⟨ci, -⟩, ⟨di, -⟩, -⟩ := hLe.2.2.2 i hi
    obtain ⟨⟨cj, -⟩, ⟨dj, -⟩, -⟩ := hLe.2.2.2 j (by omega)
    rw [Nat.zero_add] at ci di cj dj
    rw [f_X6_firstTwice_L18, if_neg (nI_ge (by omega) (by omega)), e3, e3, e4, e4, if_neg (in_row (by omega) (by decide)), if_neg (in_row (by omega) (by decide)), nI_clamp (n := 8 + 3 * i) (by omega), nI_clamp (n := 8 + 3 * j) (by omega), nI_clamp (n := 8 + 3 * i + 1) (by omega), nI_clamp (n := 8 + 3 * j + 1) (by omega), ← ci, ← cj, ← di, ← dj]
    have h := ih (j + 1) (by omega) n (by omega)
    rw [anyB] at h
    by_cases c0 : lc (4 * i) = lc (4 * j)
    · rw [if_pos c0, if_neg (in_row2 (a := 8 + 3 * i + 1) (n := 104) (by omega) (by decide)), if_neg (in_row2 (a := 8 + 3 * j + 1) (n := 104) (by omega) (by decide))]
      by_cases c1 : lc (4 * i + 1) = lc (4 * j + 1)
      · have hs : sameP lc i j = true := by simp [sameP, c0, c1]
        rw [hs, Bool.or_true, if_pos rfl] at h
        rw [if_pos c1, f_X6_firstTwice_J82, if_neg (by decide), f_X6_firstTwice_J94, nI_1]
        exact h
      · have hs : sameP lc i j = false := by simp [sameP, c1]
        rw [hs, Bool.or_false] at h
        rw [if_neg c1, f_X6_firstTwice_J82, if_pos rfl, f_X6_firstTwice_J94, nI_1]
        exact h
    · have hs : sameP lc i j = false := by simp [sameP, c0]
      rw [hs, Bool.or_false] at h
      rw [if_neg c0, f_X6_firstTwice_J82, if_pos rfl, f_X6_firstTwice_J94, nI_1]
      exact h
theorem first6 {lc st : Nat → Int32} {nD nA nL : Nat} (hLe : RLe (nI nL) lc st 0 nD nA nL) : ∀ i, i < nL → ∀ n, i < n → ∀ a, f_X6_firstTwice_L12 st n a (nI i) = some (fstA (fun i => anyB (sameP lc i) i) a i 1) := by
  have hL := hLe.2.1
  intro i
  induction i with
  | zero =>
    intro hi n hn a
    obtain ⟨n, rfl⟩ : ∃ z, n = z + 1 := ⟨n - 1, by omega⟩
    rw [f_X6_firstTwice_L12, if_pos (by decide)]
    rfl
  | succ i ih =>
    intro hi n hn a
    obtain ⟨n, rfl⟩ : ∃ z, n = z + 1 := ⟨n - 1, by omega⟩
    rw [f_X6_firstTwice_L12, if_neg (nI_nle (by omega) (by omega))]
    have h := first6in (a0 := a) (K := f_X6_firstTwice_X101 (f_X6_firstTwice_L12 st n) (nI (i + 1)) st) hLe hi (i + 1) 0 (by omega) FU (show i + 1 < 1000 by omega)
    rw [anyB, if_neg (by decide)] at h
    rw [show (0 : Int32) = nI 0 from rfl, h, f_X6_firstTwice_X101, pk_m1, ih (by omega) n (by omega), fstA_snoc, Nat.add_comm 1 i]
theorem op_twice (sc : Nat → Int32) (ar : Nat → Nat → Int32) (lg : Nat → Int64) (hR : Rel sc ar lg) (y1 : Int32) :
    ∃ (q : Int32) (q' : Int32), f_X5_twice (sc 26) (ar 12) (sc 30) (ar 14) (sc 39) (ar 20) y1 = some q ∧ f_X6_twice (ar 24) (ar 34) y1 = some q' ∧ q = q' ∧ Rel sc ar lg := by
  obtain ⟨hM, hT, hTx, nD, nA, nS, nN, hD5, hDi, hAs, hSp, hNo, ⟨hMt, nL, nG, nU, hLe, hLo, hUn⟩, hIm⟩ := id hR
  have g1 : sc 26 = nI nL := hLe.1
  have g2 : nL ≤ 12 := hLe.2.1
  have g3 : ar 34 (Int32.toNatClampNeg 0) = nI nL := hLe.2.2.1
  have hLe0 : RLe (nI nL) (ar 12) (ar 34) 0 nD nA nL := ⟨rfl, hLe.2⟩
  have hMt0 : RMt (nI nD) (ar 14) (ar 34) 0 nD := ⟨rfl, hMt.2⟩
  unfold f_X5_twice f_X6_twice
  rw [g1, hMt.1, hAs.2.1, t5_bit, t6_in1]
  rcases tst_or (n := 2) (by decide) y1 with h | ⟨h, w, hw, rfl⟩
  · rw [if_pos h, if_pos h]
    exact ⟨_, _, rfl, rfl, rfl, hR⟩
  rw [if_neg (tst_ne hw (by decide)), if_neg (tst_ne hw (by decide))]
  rcases (show w = 0 ∨ w = 1 by omega) with rfl | rfl
  · rw [if_pos (by decide), if_pos (by decide)]
    unfold f_X0_firstLentTwice f_X6_firstTwice
    rw [g3]
    rcases Nat.eq_zero_or_pos nL with hz | hz
    · subst hz
      refine ⟨-9, -9, ?_, ?_, rfl, hR⟩
      · rw [show FU = 999 + 1 from rfl, f_X0_firstLentTwice_L2, if_pos (by decide)]; rfl
      · rw [show FU = 999 + 1 from rfl, f_X6_firstTwice_L12, if_pos (by decide)]; rfl
    · have a5 := first5 (lc := ar 12) g2 (nL - 1) 1 (by omega) FU (show nL - 1 < 1000 by omega)
      have a6 := first6 hLe0 (nL - 1) (by omega) FU (show nL - 1 < 1000 by omega) (-9)
      rw [show (1 : Int32) = nI 1 from rfl, a5, show nI nL - nI 1 = nI (nL - 1) from pk_sub hz, a6]
      exact ⟨_, _, rfl, rfl, rfl, hR⟩
  · rw [if_neg (by decide), if_neg (by decide)]
    unfold f_X5_lentInVain f_X6_inVain
    have a5 : f_X5_lentInVain_L4 (nI nL) (ar 12) (nI nD) (ar 14) (nI nA) (ar 20) FU 0 0 = some (nI (cnt (vainP (ar 14) (ar 20) (ar 12) nD nA) nL)) := vain5 (mc := ar 14) (ac := ar 20) (lc := ar 12) (nD := nD) (nA := nA) g2 nL 0 (Nat.zero_add _) FU (show nL < 1000 by omega)
    have a6 : f_X6_inVain_L4 (ar 24) (ar 34) FU 0 0 = some (nI (cnt (vainP (ar 14) (ar 20) (ar 12) nD nA) nL)) := vain6 hD5 hMt0 hAs hLe0 nL 0 (Nat.zero_add _) FU (show nL < 1000 by omega)
    rw [a5, a6]
    exact ⟨_, _, rfl, rfl, rfl, hR⟩
