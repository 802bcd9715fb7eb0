/-! the log, by what fits: sky, ours -/
theorem lpE {β : Type} {K0 K1 : β} (F : Nat → Nat → β) (P : Nat → Bool) (N : Nat) (hend : ∀ n, F (n + 1) N = K0) (hit : ∀ n i, i < N → P i = true → F (n + 1) i = K1) (hs : ∀ n i, i < N → P i = false → F (n + 1) i = F n (i + 1)) (hN : N < 1000) : F FU 0 = if anyB P N = true then K1 else K0 := by
  have key : ∀ j i, i + j = N → (∀ k, k < i → P k = false) → ∀ n, j < n → F n i = if anyB P N = true then K1 else K0 := by
    intro j
    induction j with
    | zero =>
      intro i hi hno n hn
      obtain ⟨n, rfl⟩ : ∃ z, n = z + 1 := ⟨n - 1, by omega⟩
      have e : i = N := by omega
      rw [e, hend n, anyB_no N (fun k hk => hno k (by omega)), if_neg (by decide)]
    | succ j ih =>
      intro i hi hno n hn
      obtain ⟨n, rfl⟩ : ∃ z, n = z + 1 := ⟨n - 1, by omega⟩
      cases hP : P i with
      | true => rw [hit n i (by omega) hP, anyB_yes (j := i) hP N (by omega), if_pos rfl]
      | false =>
        rw [hs n i (by omega) hP]
        refine ih (i + 1) (by omega) (fun k hk => ?_) n (by omega)
        by_cases hki : k = i
        · rw [hki]; exact hP
        · exact hno k (by omega)
  exact key N 0 (Nat.zero_add N) (fun k hk => absurd hk (Nat.not_lt_zero k)) FU (by unfold FU; omega)
theorem anyB_f {P : Nat → Bool} (n : Nat) : anyB P n = false ↔ ∀ i, i < n → P i = false := by
  constructor
  · intro h i hi
    cases q : P i with
    | false => rfl
    | true => rw [anyB_yes q n hi] at h; exact absurd h (by decide)
  · exact anyB_no n
theorem any_not {P : Nat → Bool} : ∀ n, anyB (fun i => !(P i)) n = !(allB P n) := by
  intro n
  induction n with
  | zero => rfl
  | succ n ih => rw [anyB, allB, ih]; cases allB P n <;> cases P n <;> rfl
theorem allB_congr {P Q : Nat → Bool} : ∀ n, (∀ i, i < n → P i = Q i) → allB P n = allB Q n := by
  intro n
  induction n with
  | zero => intro _; rfl
  | succ n ih => intro h; rw [allB, allB, ih (fun i hi => h i (by omega)), h n (by omega)]
def gH (c : Nat → Int32) (i : Nat) : Nat := tN (c (4 * i))
def gD (c : Nat → Int32) (i : Nat) : Nat := tN (c (4 * i + 1))
def gN (c : Nat → Int32) (i : Nat) : Nat := tN (c (4 * i + 2))
def gI (c : Nat → Int32) (i : Nat) : Nat := tN (c (4 * i + 3))
def gP (mc c : Nat → Int32) (i : Nat) : Nat := lk (mV mc (gD c i)) (gH c i)
theorem gf0 {c st : Nat → Int32} {nD g i : Nat} (hLo : RLo (nI g) c st 0 nD g) (hi : i < g) : c (4 * i) = nI (gH c i) ∧ gH c i < 24 ∧ st (44 + 4 * i) = nI (gH c i) := by
  obtain ⟨⟨a, b⟩, -, -, -⟩ := hLo.2.2.2 i hi
  rw [Nat.zero_add] at a b
  rw [← a] at b
  obtain ⟨e, l⟩ := tN_in b (by decide)
  exact ⟨e, l, a.symm.trans e⟩
theorem gf1 {c st : Nat → Int32} {nD g i : Nat} (hD : nD ≤ 5) (hLo : RLo (nI g) c st 0 nD g) (hi : i < g) : c (4 * i + 1) = nI (gD c i) ∧ gD c i < nD ∧ st (44 + 4 * i + 1) = nI (gD c i) := by
  obtain ⟨-, ⟨a, b⟩, -, -⟩ := hLo.2.2.2 i hi
  rw [Nat.zero_add] at a b
  rw [← a] at b
  obtain ⟨e, l⟩ := tN_in b (by omega)
  exact ⟨e, l, a.symm.trans e⟩
theorem gf2 {c st : Nat → Int32} {nD g i : Nat} (hLo : RLo (nI g) c st 0 nD g) (hi : i < g) : c (4 * i + 2) = nI (gN c i) ∧ gN c i < 10 ∧ st (44 + 4 * i + 2) = nI (gN c i) := by
  obtain ⟨-, -, ⟨a, b⟩, -⟩ := hLo.2.2.2 i hi
  rw [Nat.zero_add] at a b
  rw [← a] at b
  obtain ⟨e, l⟩ := tN_in b (by decide)
  exact ⟨e, l, a.symm.trans e⟩
theorem gf3 {c st : Nat → Int32} {nD g i : Nat} (hLo : RLo (nI g) c st 0 nD g) (hi : i < g) : c (4 * i + 3) = nI (gI c i) ∧ gI c i < 2 ∧ st (44 + 4 * i + 3) = nI (gI c i) := by
  obtain ⟨-, -, -, ⟨a, b⟩⟩ := hLo.2.2.2 i hi
  rw [Nat.zero_add] at a b
  rw [← a] at b
  obtain ⟨e, l⟩ := tN_in b (by decide)
  exact ⟨e, l, a.symm.trans e⟩
theorem e_lgSeen {mc c st : Nat → Int32} {nD g i : Nat} (hMt : RMt (nI nD) mc st 0 nD) (hD : nD ≤ 5) (hLo : RLo (nI g) c st 0 nD g) (hi : i < g) : f_X0_placeSeen (nI nD) mc (f_X2_number (nI g) c (nI i) 1) (f_X2_number (nI g) c (nI i) 0) = nI (gP mc c i) := by
  have hg := hLo.2.1
  rw [e_num1 hi (by omega), e_num0 hi (by omega), (gf1 hD hLo hi).1, (gf0 hLo hi).1, e_placeV hMt hD (gf1 hD hLo hi).2.1 (gf0 hLo hi).2.1]
  rfl
theorem e_lgLooks {mc c st : Nat → Int32} {nD g i : Nat} (hMt : RMt (nI nD) mc st 0 nD) (hD : nD ≤ 5) (hLo : RLo (nI g) c st 0 nD g) (hi : i < g) : f_X6_looksOf st (nI (gD c i)) (nI (gH c i)) = some (nI (gP mc c i)) :=
  e_looksV hMt hD (gf1 hD hLo hi).2.1 (gf0 hLo hi).2.1
def lgdB (c : Nat → Int32) (v w i : Nat) : Bool := decide (gN c i = v) && decide (gI c i = w)
theorem e_isLogged {c st : Nat → Int32} {nD g i v w : Nat} (hLo : RLo (nI g) c st 0 nD g) (hi : i < g) (hv : v < 10) (hw : w < 2) : f_X0_isLogged (nI g) c (nI i) (nI v) (nI w) = bI (lgdB c v w i) := by
  have hg := hLo.2.1
  obtain ⟨e2, l2, -⟩ := gf2 hLo hi
  obtain ⟨e3, l3, -⟩ := gf3 hLo hi
  unfold f_X0_isLogged lgdB
  rw [e_num2 hi (by omega), e_num3 hi (by omega), e2, e3]
  by_cases q2 : gN c i = v
  · rw [if_pos (by rw [q2]), decide_eq_true q2, Bool.true_and]
    by_cases q3 : gI c i = w
    · rw [if_pos (by rw [q3]), decide_eq_true q3]; rfl
    · rw [if_neg (fun z => q3 ((nI_eq (by omega) (by omega)).mp z)), decide_eq_false q3]; rfl
  · rw [if_neg (fun z => q2 ((nI_eq (by omega) (by omega)).mp z)), decide_eq_false q2]; rfl
def elsB (mc c : Nat → Int32) (v p i : Nat) : Bool := !decide (gP mc c i = p) && lgdB c v 1 i
theorem e_els {mc c st : Nat → Int32} {nD g v p : Nat} (hMt : RMt (nI nD) mc st 0 nD) (hD : nD ≤ 5) (hLo : RLo (nI g) c st 0 nD g) (hv : v < 10) (hp : p < 8) : f_X0_isHeardElsewhere (nI g) c (nI nD) mc (nI v) (nI p) = some (bI (anyB (elsB mc c v p) g)) := by
  have hg := hLo.2.1
  unfold f_X0_isHeardElsewhere
  have h := lpE (K0 := some 0) (K1 := some 1) (fun n i => f_X0_isHeardElsewhere_L2 (nI v) (nI p) (nI g) c (nI nD) mc n (nI i)) (elsB mc c v p) g (fun n => by
      show f_X0_isHeardElsewhere_L2 (nI v) (nI p) (nI g) c (nI nD) mc (n + 1) (nI g) = some 0
      rw [f_X0_isHeardElsewhere_L2, if_pos (nI_le (Nat.le_refl _) (by omega))]) (fun n i hi hP => by
      show f_X0_isHeardElsewhere_L2 (nI v) (nI p) (nI g) c (nI nD) mc (n + 1) (nI i) = some 1
      have hl : gP mc c i < 8 := lk_lt _ _
      unfold elsB at hP
      rw [Bool.and_eq_true] at hP
      have q1 : ¬ gP mc c i = p := fun q => by rw [decide_eq_true q] at hP; exact absurd hP.1 (by decide)
      have e1 := e_isLogged (w := 1) hLo hi hv (by decide)
      rw [hP.2] at e1
      have e1' : f_X0_isLogged (nI g) c (nI i) (nI v) 1 = 1 := e1
      rw [f_X0_isHeardElsewhere_L2, if_neg (nI_ge hi (by omega)), e_lgSeen hMt hD hLo hi, if_neg (fun z => q1 ((nI_eq (by omega) (by omega)).mp z)), e1', if_neg n10]) (fun n i hi hP => by
      show f_X0_isHeardElsewhere_L2 (nI v) (nI p) (nI g) c (nI nD) mc (n + 1) (nI i) = f_X0_isHeardElsewhere_L2 (nI v) (nI p) (nI g) c (nI nD) mc n (nI (i + 1))
      have hl : gP mc c i < 8 := lk_lt _ _
      rw [f_X0_isHeardElsewhere_L2, if_neg (nI_ge hi (by omega)), e_lgSeen hMt hD hLo hi]
      by_cases q1 : gP mc c i = p
      · rw [if_pos (by rw [q1]), f_X0_isHeardElsewhere_J55, nI_1]
      · unfold elsB at hP
        rw [decide_eq_false q1] at hP
        have hP' : lgdB c v 1 i = false := hP
        have e1 := e_isLogged (w := 1) hLo hi hv (by decide)
        rw [hP'] at e1
        have e1' : f_X0_isLogged (nI g) c (nI i) (nI v) 1 = 0 := e1
        rw [if_neg (fun z => q1 ((nI_eq (by omega) (by omega)).mp z)), e1', if_pos e00, f_X0_isHeardElsewhere_J55, nI_1]) (by omega)
  refine Eq.trans (b := if anyB (elsB mc c v p) g = true then some 1 else some 0) h ?_
  cases anyB (elsB mc c v p) g <;> rfl
def lgN (mc c : Nat → Int32) (v p w i : Nat) : Nat := if lgdB c v w i = true then (if gP mc c i = p then 2 ^ gH c i else 0) else 0
theorem lgN_lt {mc c st : Nat → Int32} {nD g v p w : Nat} (hLo : RLo (nI g) c st 0 nD g) : orN (lgN mc c v p w) g < 2 ^ 24 := orN_lt g fun i hi => by
  unfold lgN
  have h := (gf0 hLo hi).2.1
  by_cases q : lgdB c v w i = true
  · rw [if_pos q]
    by_cases r : gP mc c i = p
    · rw [if_pos r]; exact p24 h
    · rw [if_neg r]; exact Nat.two_pow_pos 24
  · rw [if_neg q]; exact Nat.two_pow_pos 24
theorem e_hoursLogged {mc c st : Nat → Int32} {nD g v p w : Nat} (hMt : RMt (nI nD) mc st 0 nD) (hD : nD ≤ 5) (hLo : RLo (nI g) c st 0 nD g) (hv : v < 10) (hp : p < 8) (hw : w < 2) : f_X0_hoursLogged (nI g) c (nI nD) mc (nI v) (nI p) (nI w) = some (nI (orN (lgN mc c v p w) g)) := by
  have hg := hLo.2.1
  unfold f_X0_hoursLogged
  have hend : ∀ n, f_X0_hoursLogged_L6 (nI v) (nI p) (nI w) (nI g) c (nI nD) mc (n + 1) (nI (orN (lgN mc c v p w) g)) (nI g) = some (nI (orN (lgN mc c v p w) g)) := fun n => by
    rw [f_X0_hoursLogged_L6, if_pos (nI_le (Nat.le_refl _) (by omega))]
  have hst : ∀ n i, 0 ≤ i → i < g → f_X0_hoursLogged_L6 (nI v) (nI p) (nI w) (nI g) c (nI nD) mc (n + 1) (nI (orN (lgN mc c v p w) i)) (nI i) = f_X0_hoursLogged_L6 (nI v) (nI p) (nI w) (nI g) c (nI nD) mc n (nI (orN (lgN mc c v p w) (i + 1))) (nI (i + 1)) := fun n i _ hi => by
    have hl : gP mc c i < 8 := lk_lt _ _
    have h0 := gf0 hLo hi
    rw [f_X0_hoursLogged_L6, if_neg (nI_ge hi (by omega)), e_isLogged hLo hi hv hw, if_bI, e_lgSeen hMt hD hLo hi, orN]
    by_cases q : lgdB c v w i = true
    · rw [if_pos q]
      by_cases r : gP mc c i = p
      · have z : lgN mc c v p w i = 2 ^ gH c i := by unfold lgN; rw [if_pos q, if_pos r]
        rw [if_pos (by rw [r]), e_num0 hi (by omega), h0.1, b_bit _ (by omega), b_or, f_X0_hoursLogged_J70, nI_1, z]
      · have z : lgN mc c v p w i = 0 := by unfold lgN; rw [if_pos q, if_neg r]
        rw [if_neg (fun z => r ((nI_eq (by omega) (by omega)).mp z)), f_X0_hoursLogged_J70, nI_1, z, Nat.or_zero]
    · have z : lgN mc c v p w i = 0 := by unfold lgN; rw [if_neg q]
      rw [if_neg q, f_X0_hoursLogged_J70, nI_1, z, Nat.or_zero]
  exact lp (fun n i => f_X0_hoursLogged_L6 (nI v) (nI p) (nI w) (nI g) c (nI nD) mc n (nI (orN (lgN mc c v p w) i)) (nI i)) g hend 0 hst (Nat.zero_le _) (by omega)
/-! the reference's side of the log -/
def soB (c : Nat → Int32) (v : Nat) (b : Bool) (i : Nat) : Bool := !decide (gN c i = v) || (decide (gI c i = 1) == b)
theorem e_isSo {c st : Nat → Int32} {nD g i v : Nat} (b : Bool) (hLo : RLo (nI g) c st 0 nD g) (hi : i < g) (hv : v < 10) : f_X6_isSo st (nI i) (nI v) (bI b) = some (bI (soB c v b i)) := by
  have hg := hLo.2.1
  obtain ⟨-, l2, s2⟩ := gf2 hLo hi
  obtain ⟨-, l3, s3⟩ := gf3 hLo hi
  have i0 : (44 : Int32) + 4 * nI i = nI (44 + 4 * i) := by rw [show (44 : Int32) = nI 44 from rfl, show (4 : Int32) = nI 4 from rfl, pk_mul, nI_add]
  have i2 : nI (44 + 4 * i) + 2 = nI (44 + 4 * i + 2) := nI_add _ 2
  have i3 : nI (44 + 4 * i) + 3 = nI (44 + 4 * i + 3) := nI_add _ 3
  unfold f_X6_isSo soB
  rw [i0, i2, i3, if_neg (in_row (a := 44 + 4 * i + 2) (by omega) (by decide)), nI_clamp (n := 44 + 4 * i + 2) (by omega), s2]
  by_cases q : gN c i = v
  · rw [if_pos (by rw [q]), if_neg (in_row (a := 44 + 4 * i + 3) (by omega) (by decide)), nI_clamp (n := 44 + 4 * i + 3) (by omega), s3, decide_eq_true q]
    rcases (show gI c i = 0 ∨ gI c i = 1 by omega) with r | r
    · rw [r, if_neg (by decide), f_X6_isSo_J39]
      cases b <;> rfl
    · rw [r, if_pos (by decide), f_X6_isSo_J39]
      cases b <;> rfl
  · rw [if_neg (fun z => q ((nI_eq (by omega) (by omega)).mp z)), decide_eq_false q]
    rfl
def mayB (mc c : Nat → Int32) (v p fr to i : Nat) : Bool := soB c v (decide (gP mc c i = p) && (decide (fr ≤ gH c i) && decide (gH c i ≤ to))) i
theorem e_J80 {K : Int32 → Option Int32} {c st : Nat → Int32} {x1 x2 x3 x4 x6 : Int32} {nD g i v : Nat} (b : Bool) (hLo : RLo (nI g) c st 0 nD g) (hi : i < g) (hv : v < 10) : f_X6_maySpeak_J80 K x1 x2 x3 x4 x6 (nI i) (nI v) st (bI b) = K (bI (soB c v b i)) := by
  rw [f_X6_maySpeak_J80, e_isSo b hLo hi hv, Option.bind_some, if_bI]
  cases soB c v b i <;> rfl
theorem e_may {mc c st : Nat → Int32} {nD g v p fr to : Nat} (hMt : RMt (nI nD) mc st 0 nD) (hD : nD ≤ 5) (hLo : RLo (nI g) c st 0 nD g) (hv : v < 10) (hp : p < 8) (hf : fr < 24) (ht : to < 24) : f_X6_maySpeak st (nI v) (nI p) (nI fr) (nI to) = some (bI (allB (mayB mc c v p fr to) g)) := by
  have hg := hLo.2.1
  have g3 : st (Int32.toNatClampNeg 1) = nI g := hLo.2.2.1
  unfold f_X6_maySpeak
  have hend : ∀ n, f_X6_maySpeak_L6 (nI v) (nI p) (nI fr) (nI to) st (n + 1) (bI (allB (mayB mc c v p fr to) g)) (nI g) = some (bI (allB (mayB mc c v p fr to) g)) := fun n => by
    rw [f_X6_maySpeak_L6, g3, if_pos (nI_le (Nat.le_refl _) (by omega)), if_pos (bI_or _)]
  have hst : ∀ n i, 0 ≤ i → i < g → f_X6_maySpeak_L6 (nI v) (nI p) (nI fr) (nI to) st (n + 1) (bI (allB (mayB mc c v p fr to) i)) (nI i) = f_X6_maySpeak_L6 (nI v) (nI p) (nI fr) (nI to) st n (bI (allB (mayB mc c v p fr to) (i + 1))) (nI (i + 1)) := fun n i _ hi => by
    have hl : gP mc c i < 8 := lk_lt _ _
    obtain ⟨-, l0, s0⟩ := gf0 hLo hi
    obtain ⟨-, l1, s1⟩ := gf1 hD hLo hi
    have i0 : (44 : Int32) + 4 * nI i = nI (44 + 4 * i) := by rw [show (44 : Int32) = nI 44 from rfl, show (4 : Int32) = nI 4 from rfl, pk_mul, nI_add]
    have i1 : nI (44 + 4 * i) + 1 = nI (44 + 4 * i + 1) := nI_1 _
    have hJ : ∀ (b : Bool), mayB mc c v p fr to i = soB c v b i → f_X6_maySpeak_J80 (f_X6_maySpeak_J91 (f_X6_maySpeak_L6 (nI v) (nI p) (nI fr) (nI to) st n) (nI v) (nI p) (nI fr) (nI to) (nI i) st) (nI v) (nI p) (nI fr) (nI to) (nI i) (nI i) (nI v) st (bI b) = f_X6_maySpeak_L6 (nI v) (nI p) (nI fr) (nI to) st n (bI (mayB mc c v p fr to i)) (nI (i + 1)) := fun b hb => by
      rw [e_J80 b hLo hi hv, f_X6_maySpeak_J91, nI_1, hb]
    rw [f_X6_maySpeak_L6, g3, if_neg (nI_ge hi (by omega)), i0, i1, if_neg (in_row (a := 44 + 4 * i) (by omega) (by decide)), if_bI, allB]
    by_cases ha : allB (mayB mc c v p fr to) i = true
    · rw [if_pos ha, ha, Bool.true_and, if_neg (in_row (a := 44 + 4 * i + 1) (by omega) (by decide)), nI_clamp (n := 44 + 4 * i) (by omega), nI_clamp (n := 44 + 4 * i + 1) (by omega), s0, s1, e_lgLooks hMt hD hLo hi, Option.bind_some]
      by_cases q : gP mc c i = p
      · rw [if_pos (by rw [q]), in_ite]
        by_cases r : gH c i < fr
        · rw [if_pos (nI_lt r (by omega))]
          exact hJ false (by unfold mayB; rw [decide_eq_false (show ¬ fr ≤ gH c i by omega), Bool.false_and, Bool.and_false])
        rw [if_neg (nI_nlt (by omega) (by omega))]
        by_cases r2 : to < gH c i
        · rw [if_pos (nI_lt r2 (by omega))]
          exact hJ false (by unfold mayB; rw [decide_eq_false (show ¬ gH c i ≤ to by omega), Bool.and_false, Bool.and_false])
        rw [if_neg (nI_nlt (by omega) (by omega))]
        exact hJ true (by unfold mayB; rw [decide_eq_true q, decide_eq_true (show fr ≤ gH c i by omega), decide_eq_true (show gH c i ≤ to by omega)]; rfl)
      · rw [if_neg (fun z => q ((nI_eq (by omega) (by omega)).mp z))]
        exact hJ false (by unfold mayB; rw [decide_eq_false q, Bool.false_and])
    · have hf : allB (mayB mc c v p fr to) i = false := by cases q : allB (mayB mc c v p fr to) i with | true => exact absurd q ha | false => rfl
      rw [if_neg ha, hf, Bool.false_and, f_X6_maySpeak_J91, nI_1]
      rfl
  exact lp (fun n i => f_X6_maySpeak_L6 (nI v) (nI p) (nI fr) (nI to) st n (bI (allB (mayB mc c v p fr to) i)) (nI i)) g hend 0 hst (Nat.zero_le _) (by omega)
/-! sky -/
theorem sk_pt {mc c : Nat → Int32} {v p i : Nat} (h0 : gH c i < 24) (h3 : gI c i < 2) : (elsB mc c v p i = false ∧ lgN mc c v p 0 i = 0) ↔ mayB mc c v p 0 23 i = true := by
  have hp : ¬ (2 ^ gH c i = 0) := Nat.ne_of_gt (Nat.two_pow_pos _)
  have a1 : decide (0 ≤ gH c i) = true := decide_eq_true (Nat.zero_le _)
  have a2 : decide (gH c i ≤ 23) = true := decide_eq_true (by omega)
  unfold elsB lgN mayB soB lgdB
  rw [a1, a2]
  rcases (show gI c i = 0 ∨ gI c i = 1 by omega) with r | r
  · by_cases q1 : gN c i = v
    · by_cases q2 : gP mc c i = p <;> simp [r, q1, q2]
    · simp [r, q1]
  · by_cases q1 : gN c i = v
    · by_cases q2 : gP mc c i = p <;> simp [r, q1, q2]
    · simp [r, q1]
theorem sk_eq {mc c st : Nat → Int32} {nD g v p : Nat} (hLo : RLo (nI g) c st 0 nD g) : (!anyB (elsB mc c v p) g && decide (orN (lgN mc c v p 0) g = 0)) = allB (mayB mc c v p 0 23) g := by
  rw [Bool.eq_iff_iff, Bool.and_eq_true, Bool.not_eq_true', anyB_f, decide_eq_true_iff, orN_0, allB_iff]
  constructor
  · rintro ⟨h1, h2⟩ i hi
    exact (sk_pt (gf0 hLo hi).2.1 (gf3 hLo hi).2.1).mp ⟨h1 i hi, h2 i hi⟩
  · intro h
    exact ⟨fun i hi => ((sk_pt (gf0 hLo hi).2.1 (gf3 hLo hi).2.1).mpr (h i hi)).1, fun i hi => ((sk_pt (gf0 hLo hi).2.1 (gf3 hLo hi).2.1).mpr (h i hi)).2⟩
def skyN (mc c : Nat → Int32) (v g p : Nat) : Nat := if allB (mayB mc c v p 0 23) g = true then 2 ^ p else 0
theorem sky5 {mc c st : Nat → Int32} {nD g v : Nat} (hMt : RMt (nI nD) mc st 0 nD) (hD : nD ≤ 5) (hLo : RLo (nI g) c st 0 nD g) (hv : v < 10) : f_X5_sky_L13 (nI v) (nI g) c (nI nD) mc FU 0 0 = some (nI (orN (skyN mc c v g) 8)) := by
  have hend : ∀ n, f_X5_sky_L13 (nI v) (nI g) c (nI nD) mc (n + 1) (nI (orN (skyN mc c v g) 8)) (nI 8) = some (nI (orN (skyN mc c v g) 8)) := fun n => by
    rw [f_X5_sky_L13, if_pos (by decide)]
  have hst : ∀ n i, 0 ≤ i → i < 8 → f_X5_sky_L13 (nI v) (nI g) c (nI nD) mc (n + 1) (nI (orN (skyN mc c v g) i)) (nI i) = f_X5_sky_L13 (nI v) (nI g) c (nI nD) mc n (nI (orN (skyN mc c v g) (i + 1))) (nI (i + 1)) := fun n i _ hi => by
    have hlt := lgN_lt (mc := mc) (v := v) (p := i) (w := 0) hLo
    have hw : f_X0_hoursLogged (nI g) c (nI nD) mc (nI v) (nI i) 0 = some (nI (orN (lgN mc c v i 0) g)) := e_hoursLogged (w := 0) hMt hD hLo hv hi (by decide)
    rw [f_X5_sky_L13, if_neg (show ¬ (8 : Int32) ≤ nI i from nI_ge (b := 8) hi (by decide)), e_els hMt hD hLo hv hi, Option.bind_some, if_bI, orN]
    have hsk := sk_eq (mc := mc) (v := v) (p := i) hLo
    by_cases q : anyB (elsB mc c v i) g = true
    · have z : skyN mc c v g i = 0 := by unfold skyN; rw [← hsk, q]; rfl
      rw [if_pos q, f_X5_sky_J50, nI_1, z, Nat.or_zero]
    · have qf : anyB (elsB mc c v i) g = false := by cases z : anyB (elsB mc c v i) g with | true => exact absurd z q | false => rfl
      rw [if_neg q, hw, Option.bind_some]
      by_cases r : orN (lgN mc c v i 0) g = 0
      · have z : skyN mc c v g i = 2 ^ i := by unfold skyN; rw [← hsk, qf, decide_eq_true r]; rfl
        rw [if_pos (by rw [r]; rfl), b_bit _ (by omega), b_or, f_X5_sky_J50, nI_1, z]
      · have z : skyN mc c v g i = 0 := by unfold skyN; rw [← hsk, qf, decide_eq_false r]; rfl
        rw [if_neg (nI_ne0 (Nat.pos_of_ne_zero r) (by omega)), f_X5_sky_J50, nI_1, z, Nat.or_zero]
  exact lp (fun n i => f_X5_sky_L13 (nI v) (nI g) c (nI nD) mc n (nI (orN (skyN mc c v g) i)) (nI i)) 8 hend 0 hst (by decide) (by decide)
theorem sky6 {mc c st : Nat → Int32} {nD g v : Nat} (hMt : RMt (nI nD) mc st 0 nD) (hD : nD ≤ 5) (hLo : RLo (nI g) c st 0 nD g) (hv : v < 10) : f_X6_sky_L13 (nI v) st FU 0 0 = some (nI (orN (skyN mc c v g) 8)) := by
  have hend : ∀ n, f_X6_sky_L13 (nI v) st (n + 1) (nI (orN (skyN mc c v g) 8)) (nI 8) = some (nI (orN (skyN mc c v g) 8)) := fun n => by
    rw [f_X6_sky_L13, if_pos (by decide)]
  have hst : ∀ n i, 0 ≤ i → i < 8 → f_X6_sky_L13 (nI v) st (n + 1) (nI (orN (skyN mc c v g) i)) (nI i) = f_X6_sky_L13 (nI v) st n (nI (orN (skyN mc c v g) (i + 1))) (nI (i + 1)) := fun n i _ hi => by
    have hw : f_X6_maySpeak st (nI v) (nI i) 0 23 = some (bI (allB (mayB mc c v i 0 23) g)) := e_may (fr := 0) (to := 23) hMt hD hLo hv hi (by decide) (by decide)
    rw [f_X6_sky_L13, if_neg (show ¬ (8 : Int32) ≤ nI i from nI_ge (b := 8) hi (by decide)), hw, Option.bind_some, if_bI, orN]
    by_cases q : allB (mayB mc c v i 0 23) g = true
    · have z : skyN mc c v g i = 2 ^ i := by unfold skyN; rw [if_pos q]
      rw [if_pos q, b_bit _ (by omega), f_X6_sky_J39, b_or, nI_1, z]
    · have z : skyN mc c v g i = 0 := by unfold skyN; rw [if_neg q]
      rw [if_neg q, f_X6_sky_J39, nI_1, z, Nat.or_zero, Int32.or_zero]
  exact lp (fun n i => f_X6_sky_L13 (nI v) st n (nI (orN (skyN mc c v g) i)) (nI i)) 8 hend 0 hst (by decide) (by decide)
theorem op_sky (sc : Nat → Int32) (ar : Nat → Nat → Int32) (lg : Nat → Int64) (hR : Rel sc ar lg) (y1 : Int32) :
    ∃ (q : Int32) (q' : Int32), f_X5_sky (sc 28) (ar 13) (sc 30) (ar 14) y1 = some q ∧ f_X6_sky (ar 34) y1 = some q' ∧ q = q' ∧ Rel sc ar lg := by
  obtain ⟨hM, hT, hTx, nD, nA, nS, nN, hD5, hDi, hAs, hSp, hNo, ⟨hMt, nL, nG, nU, hLe, hLo, hUn⟩, hIm⟩ := id hR
  have hMt0 : RMt (nI nD) (ar 14) (ar 34) 0 nD := ⟨rfl, hMt.2⟩
  have hLo0 : RLo (nI nG) (ar 13) (ar 34) 0 nD nG := ⟨rfl, hLo.2⟩
  unfold f_X5_sky f_X6_sky
  rw [hLo.1, hMt.1, t5_note, t6_note]
  rcases tst_or (n := 10) (by decide) y1 with h | ⟨h, v, hv, rfl⟩
  · rw [if_pos h, if_pos h]
    exact ⟨_, _, rfl, rfl, rfl, hR⟩
  rw [if_neg (tst_ne hv (by decide)), if_neg (tst_ne hv (by decide)), sky5 hMt0 hD5 hLo0 hv, sky6 hMt0 hD5 hLo0 hv]
  exact ⟨_, _, rfl, rfl, rfl, hR⟩
