/-! best -/
def bQ (ac : Nat → Int32) (R : Nat → Nat) (nA s f : Nat) : Bool := decide (0 < s) && (allB (haB ac R nA s) 8 && !decide (nI (sumN (suN ac s) nA) ≤ nI (sumN (suN ac f) nA)))
/-- the best set of those below k -/
def bst (ac : Nat → Int32) (R : Nat → Nat) (nA : Nat) : Nat → Nat
  | 0 => 0
  | s + 1 => if bQ ac R nA s (bst ac R nA s) = true then s else bst ac R nA s
theorem bst_le {ac : Nat → Int32} {R : Nat → Nat} {nA : Nat} : ∀ k, bst ac R nA k ≤ k := by
  intro k
  induction k with
  | zero => exact Nat.le_refl _
  | succ k ih =>
    rw [bst]
    by_cases h : bQ ac R nA k (bst ac R nA k) = true
    · rw [if_pos h]; omega
    · rw [if_neg h]; omega
theorem bst_1 {ac : Nat → Int32} {R : Nat → Nat} {nA : Nat} : bst ac R nA 1 = 0 := by
  have := bst_le (ac := ac) (R := R) (nA := nA) 1
  rw [bst, bst]
  by_cases h : bQ ac R nA 0 0 = true
  · rw [if_pos h]
  · rw [if_neg h]
theorem p2A {n : Nat} (h : n ≤ 5) : 2 ^ n ≤ 32 := Nat.pow_le_pow_right (n := 2) (by decide) h
theorem best5 {ac ak sl : Nat → Int32} {n6 : Int32} {nA : Nat} {R : Nat → Nat} (hA : RAs (nI nA) ac n6 ak nA) (hR : ∀ p, R p < 2 ^ 31) : f_X5_bestAskers_L11 (rmE sl R) (nI nA) ac FU 0 1 = some (nI (bst ac R nA (2 ^ nA)), rmE sl R) := by
  have h5 := hA.1
  have hN := p2A h5
  have hN1 : 1 ≤ 2 ^ nA := Nat.two_pow_pos nA
  have hb : (1 : Int32) <<< (nI nA &&& 31) = nI (2 ^ nA) := b_bit nA (by omega)
  generalize hNN : 2 ^ nA = N at hN hN1 hb
  have hend : ∀ n, f_X5_bestAskers_L11 (rmE sl R) (nI nA) ac (n + 1) (nI (bst ac R nA N)) (nI N) = some (nI (bst ac R nA N), rmE sl R) := fun n => by
    rw [f_X5_bestAskers_L11, hb, if_pos (nI_le (Nat.le_refl _) (by omega))]
  have hst : ∀ n i, 1 ≤ i → i < N → f_X5_bestAskers_L11 (rmE sl R) (nI nA) ac (n + 1) (nI (bst ac R nA i)) (nI i) = f_X5_bestAskers_L11 (rmE sl R) (nI nA) ac n (nI (bst ac R nA (i + 1))) (nI (i + 1)) := fun n i h1 hi => by
    have hle := bst_le (ac := ac) (R := R) (nA := nA) i
    rw [bst]
    generalize bst ac R nA i = f at hle
    have hp : decide (0 < i) = true := decide_eq_true (by omega)
    rw [f_X5_bestAskers_L11, hb, if_neg (nI_ge hi (by omega)), sure5 hA (by omega), Option.bind_some, sure5 hA (by omega), Option.bind_some]
    by_cases q : nI (sumN (suN ac i) nA) ≤ nI (sumN (suN ac f) nA)
    · have z : bQ ac R nA i f = false := by unfold bQ; rw [decide_eq_true q, Bool.not_true, Bool.and_false, Bool.and_false]
      rw [if_pos q, f_X5_bestAskers_J54, nI_1, z, if_neg (by decide)]
    · rw [if_neg q, have5 hA (by omega) hR, Option.bind_some, if_bI]
      by_cases r : allB (haB ac R nA i) 8 = true
      · have z : bQ ac R nA i f = true := by unfold bQ; rw [hp, r, decide_eq_false q]; rfl
        rw [if_pos r, f_X5_bestAskers_J54, nI_1, z, if_pos rfl]
      · have z : ¬ bQ ac R nA i f = true := fun w => by unfold bQ at w; rw [Bool.and_eq_true, Bool.and_eq_true] at w; exact r w.2.1
        rw [if_neg r, f_X5_bestAskers_J54, nI_1, if_neg z]
  have h := lp (fun n i => f_X5_bestAskers_L11 (rmE sl R) (nI nA) ac n (nI (bst ac R nA i)) (nI i)) N hend 1 hst hN1 (by omega)
  rw [bst_1] at h
  exact h
theorem best6 {K : Int32 → Option (Int32 × (Nat → Int32))} {ac ak sl : Nat → Int32} {n6 x3 : Int32} {nA : Nat} {R : Nat → Nat} (hA : RAs (nI nA) ac n6 ak nA) (hR : ∀ p, R p < 2 ^ 31) : f_X6_best_L31 K x3 (nI nA) ak (rmE sl R) FU 0 1 = K (nI (bst ac R nA (2 ^ nA))) := by
  have h5 := hA.1
  have hN := p2A h5
  have hN1 : 1 ≤ 2 ^ nA := Nat.two_pow_pos nA
  have hb : (1 : Int32) <<< (nI nA &&& 31) = nI (2 ^ nA) := b_bit nA (by omega)
  generalize hNN : 2 ^ nA = N at hN hN1 hb
  have hend : ∀ n, f_X6_best_L31 K x3 (nI nA) ak (rmE sl R) (n + 1) (nI (bst ac R nA N)) (nI N) = K (nI (bst ac R nA N)) := fun n => by
    rw [f_X6_best_L31, hb, if_pos (nI_le (Nat.le_refl _) (by omega))]
  have hst : ∀ n i, 1 ≤ i → i < N → f_X6_best_L31 K x3 (nI nA) ak (rmE sl R) (n + 1) (nI (bst ac R nA i)) (nI i) = f_X6_best_L31 K x3 (nI nA) ak (rmE sl R) n (nI (bst ac R nA (i + 1))) (nI (i + 1)) := fun n i h1 hi => by
    have hle := bst_le (ac := ac) (R := R) (nA := nA) i
    rw [bst]
    generalize bst ac R nA i = f at hle
    have hp : decide (0 < i) = true := decide_eq_true (by omega)
    rw [f_X6_best_L31, hb, if_neg (nI_ge hi (by omega)), have6 hA (by omega) hR, Option.bind_some, if_bI]
    by_cases r : allB (haB ac R nA i) 8 = true
    · rw [if_pos r, sure6 hA (by omega), Option.bind_some, sure6 hA (by omega), Option.bind_some]
      by_cases q : nI (sumN (suN ac i) nA) ≤ nI (sumN (suN ac f) nA)
      · have z : bQ ac R nA i f = false := by unfold bQ; rw [decide_eq_true q, Bool.not_true, Bool.and_false, Bool.and_false]
        rw [if_pos q, f_X6_best_J71, nI_1, z, if_neg (by decide)]
      · have z : bQ ac R nA i f = true := by unfold bQ; rw [hp, r, decide_eq_false q]; rfl
        rw [if_neg q, f_X6_best_J73, nI_1, z, if_pos rfl]
    · have z : ¬ bQ ac R nA i f = true := fun w => by unfold bQ at w; rw [Bool.and_eq_true, Bool.and_eq_true] at w; exact r w.2.1
      rw [if_neg r, f_X6_best_J71, nI_1, if_neg z]
  have h := lp (fun n i => f_X6_best_L31 K x3 (nI nA) ak (rmE sl R) n (nI (bst ac R nA i)) (nI i)) N hend 1 hst hN1 (by omega)
  rw [bst_1] at h
  exact h
theorem op_best (sc : Nat → Int32) (ar : Nat → Nat → Int32) (lg : Nat → Int64) (hR : Rel sc ar lg) (y1 : Int32) (y2 : Int32) (y3 : Int32) :
    ∃ (q : Int32 × (Nat → Int32)) (q' : Int32 × (Nat → Int32)), f_X5_best (sc 30) (ar 14) (ar 18) (sc 39) (ar 20) y1 y2 y3 = some q ∧ f_X6_best (sc 46) (sc 49) (ar 24) (ar 28) (ar 34) y1 y2 y3 = some q' ∧ q.1 = q'.1 ∧ Rel sc (uv (uv ar 18 q.2) 28 q'.2) lg := by
  obtain ⟨hM, hT, hTx, nD, nA, nS, nN, hD5, hDi, hAs, hSp, hNo, ⟨hMt, nL, nG, nU, hLe, hLo, hUn⟩, hIm⟩ := id hR
  have hMt0 : RMt (nI nD) (ar 14) (ar 34) 0 nD := ⟨rfl, hMt.2⟩
  have hAs0 : RAs (nI nA) (ar 20) (sc 49) (ar 24) nA := ⟨hAs.1, rfl, hAs.2.2⟩
  have h5 := hAs.1
  have fin : ∀ a b : Nat → Int32, Rel sc (uv (uv ar 18 a) 28 b) lg := fun a b => ⟨hM, hT, hTx, nD, nA, nS, nN, hD5, hDi, hAs, hSp, hNo, ⟨hMt, nL, nG, nU, hLe, hLo, hUn⟩, hIm⟩
  unfold f_X5_best f_X6_best
  rw [hDi, hMt.1, hAs.2.1, hAs.2.2.1, t5_bit, t6_in1]
  rcases ah_or y1 y2 with ⟨h, h6⟩ | ⟨h, h6, a, b, hab, hb, rfl, rfl⟩
  · rw [if_pos h, if_pos h6]
    exact ⟨_, _, rfl, rfl, rfl, fin _ _⟩
  rw [h, h6, if_neg n10, if_neg n10]
  rcases tst_or (n := 2) (by decide) y3 with t | ⟨t, w, hw, rfl⟩
  · rw [if_pos t, if_pos t]
    exact ⟨_, _, rfl, rfl, rfl, fin _ _⟩
  have hRR : ∀ p, rmD (ar 14) a b nD p < 2 ^ 31 := fun p => by
    have := rmD_b (mc := ar 14) (a := a) (p := p) hb nD
    omega
  have hbl := bst_le (ac := ar 20) (R := rmD (ar 14) a b nD) (nA := nA) (2 ^ nA)
  have hN := p2A h5
  rw [if_neg (tst_ne hw (by decide)), if_neg (tst_ne hw (by decide)), f_X5_bestAskers, room5 hMt0 hD5 hab hb, Option.bind_some, best5 hAs0 hRR, Option.bind_some, room6 hMt0 hD5 hab hb, Option.bind_some, best6 hAs0 hRR, f_X6_best_X81, sure6 hAs0 (by omega), sure5 hAs0 (by omega)]
  by_cases q : nI w = 0
  · rw [if_pos q, if_pos q]
    exact ⟨_, _, rfl, rfl, rfl, fin _ _⟩
  · rw [if_neg q, if_neg q]
    exact ⟨_, _, rfl, rfl, rfl, fin _ _⟩
