/-! which places a dish sees in hours; second -/
def mV (mc : Nat → Int32) (e : Nat) : Nat := tN (mc (4 * e))
theorem mt {mc st : Nat → Int32} {nD e : Nat} (hMt : RMt (nI nD) mc st 0 nD) (he : e < nD) : mc (4 * e) = nI (mV mc e) ∧ mV mc e < 8 ∧ st (3 + e) = nI (mV mc e) := by
  obtain ⟨hc, v, hv, hs⟩ := hMt.2 e he
  have hm : mV mc e = v := by unfold mV; rw [hc, hs, tN_nI (by omega)]
  rw [hm]
  exact ⟨hc.trans hs, hv, by rw [← hs, Nat.zero_add]⟩
theorem e_placeV {mc st : Nat → Int32} {nD e h : Nat} (hMt : RMt (nI nD) mc st 0 nD) (hD5 : nD ≤ 5) (he : e < nD) (hh : h < 24) : f_X0_placeSeen (nI nD) mc (nI e) (nI h) = nI (lk (mV mc e) h) :=
  e_place he hD5 (mt hMt he).2.1 hh (mt hMt he).1
theorem e_looksV {mc st : Nat → Int32} {nD e h : Nat} (hMt : RMt (nI nD) mc st 0 nD) (hD5 : nD ≤ 5) (he : e < nD) (hh : h < 24) : f_X6_looksOf st (nI e) (nI h) = some (nI (lk (mV mc e) h)) :=
  e_looksOf (by omega) (mt hMt he).2.1 hh (mt hMt he).2.2
def seenN (v a : Nat) : Nat → Nat := orN (fun h => if a ≤ h then 2 ^ lk v h else 0)
theorem seenN_s {v a i : Nat} (h : a ≤ i) : seenN v a (i + 1) = seenN v a i ||| 2 ^ lk v i := by
  unfold seenN
  rw [orN, if_pos h]
theorem seenN_0 {v a : Nat} : seenN v a a = 0 := (orN_0 a).2 fun i hi => if_neg (by omega)
theorem seenN_lt {v a n : Nat} : seenN v a n < 2 ^ 8 := orN_lt n fun i _ => by
  by_cases h : a ≤ i
  · rw [if_pos h]; exact p24 (lk_lt v i)
  · rw [if_neg h]; exact Nat.two_pow_pos 8
theorem seenN_tb {v a n p : Nat} : (seenN v a n).testBit p = anyB (fun h => decide (a ≤ h) && decide (lk v h = p)) n := by
  unfold seenN
  rw [orN_tb]
  congr 1
  funext h
  by_cases q : a ≤ h
  · rw [if_pos q, Nat.testBit_two_pow, decide_eq_true q, Bool.true_and]
  · rw [if_neg q, Nat.zero_testBit, decide_eq_false q, Bool.false_and]
theorem e_seen {mc st : Nat → Int32} {nD e a b : Nat} (hMt : RMt (nI nD) mc st 0 nD) (hD5 : nD ≤ 5) (he : e < nD) (hb : b < 24) (hab : a ≤ b) : f_X0_placesSeen (nI nD) mc (nI e) (nI a) (nI b) = some (nI (seenN (mV mc e) a (b + 1))) := by
  unfold f_X0_placesSeen
  have hend : ∀ n, f_X0_placesSeen_L6 (nI e) (nI b) (nI nD) mc (n + 1) (nI (seenN (mV mc e) a (b + 1))) (nI (b + 1)) = some (nI (seenN (mV mc e) a (b + 1))) := fun n => by
    rw [f_X0_placesSeen_L6, if_pos (nI_lt (by omega) (by omega))]
  have hst : ∀ n i, a ≤ i → i < b + 1 → f_X0_placesSeen_L6 (nI e) (nI b) (nI nD) mc (n + 1) (nI (seenN (mV mc e) a i)) (nI i) = f_X0_placesSeen_L6 (nI e) (nI b) (nI nD) mc n (nI (seenN (mV mc e) a (i + 1))) (nI (i + 1)) := fun n i ha hi => by
    have hl := lk_lt (mV mc e) i
    rw [f_X0_placesSeen_L6, if_neg (nI_nlt (by omega) (by omega)), if_neg (show ¬ (24 : Int32) ≤ nI i from nI_ge (b := 24) (by omega) (by decide)), e_placeV hMt hD5 he (by omega), b_bit _ (by omega), b_or, nI_1, seenN_s ha]
  have h := lp (fun n i => f_X0_placesSeen_L6 (nI e) (nI b) (nI nD) mc n (nI (seenN (mV mc e) a i)) (nI i)) (b + 1) hend a hst (by omega) (by omega)
  rw [seenN_0] at h
  exact h
def secB (mc : Nat → Int32) (d h : Nat) (e : Nat) : Bool := !decide (e = d) && (seenN (mV mc e) h 24).testBit (lk (mV mc d) h)
theorem second5 {mc st : Nat → Int32} {nD d h : Nat} (hMt : RMt (nI nD) mc st 0 nD) (hD5 : nD ≤ 5) (hd : d < nD) (hh : h < 24) : f_X5_second_L33 (nI d) (nI h) (nI (lk (mV mc d) h)) (nI nD) mc FU 0 0 = some (nI (cnt (secB mc d h) nD)) := by
  have hend : ∀ n, f_X5_second_L33 (nI d) (nI h) (nI (lk (mV mc d) h)) (nI nD) mc (n + 1) (nI (cnt (secB mc d h) nD)) (nI nD) = some (nI (cnt (secB mc d h) nD)) := fun n => by
    rw [f_X5_second_L33, if_pos (nI_le (Nat.le_refl _) (by omega))]
  have hst : ∀ n i, 0 ≤ i → i < nD → f_X5_second_L33 (nI d) (nI h) (nI (lk (mV mc d) h)) (nI nD) mc (n + 1) (nI (cnt (secB mc d h) i)) (nI i) = f_X5_second_L33 (nI d) (nI h) (nI (lk (mV mc d) h)) (nI nD) mc n (nI (cnt (secB mc d h) (i + 1))) (nI (i + 1)) := fun n i _ hi => by
    have hl := lk_lt (mV mc d) h
    have hs8 := seenN_lt (v := mV mc i) (a := h) (n := 24)
    have es : f_X0_placesSeen (nI nD) mc (nI i) (nI h) 23 = some (nI (seenN (mV mc i) h 24)) := e_seen (b := 23) hMt hD5 hi (by decide) (by omega)
    rw [f_X5_second_L33, if_neg (nI_ge (by omega) (by omega)), cnt]
    by_cases hid : i = d
    · have z : secB mc d h i = false := by unfold secB; rw [decide_eq_true hid]; rfl
      rw [if_pos (by rw [hid]), f_X5_second_J76, nI_1, z, if_neg (by decide)]
      rfl
    · have hne : ¬ nI i = nI d := fun q => hid ((nI_eq (by omega) (by omega)).mp q)
      have z : secB mc d h i = (seenN (mV mc i) h 24).testBit (lk (mV mc d) h) := by unfold secB; rw [decide_eq_false hid]; rfl
      rw [if_neg hne, es, Option.bind_some, e_bit5 (by omega) (by omega), if_bI, ← z]
      by_cases hz : secB mc d h i = true
      · rw [if_pos hz, if_pos hz, f_X5_second_J76, nI_1, nI_1]
      · rw [if_neg hz, if_neg hz, f_X5_second_J76, nI_1]
        rfl
  exact lp (fun n i => f_X5_second_L33 (nI d) (nI h) (nI (lk (mV mc d) h)) (nI nD) mc n (nI (cnt (secB mc d h) i)) (nI i)) nD hend 0 hst (Nat.zero_le _) (by omega)
def secA (mc : Nat → Int32) (d h e : Nat) : Nat → Bool := anyB (fun s => decide (h ≤ s) && decide (lk (mV mc e) s = lk (mV mc d) h))
theorem second6in {K : Int32 → Option Int32} {mc st : Nat → Int32} {x3 : Int32} {nD d h e : Nat} (hMt : RMt (nI nD) mc st 0 nD) (hD5 : nD ≤ 5) (hd : d < nD) (he : e < nD) (hh : h < 24) : f_X6_second_L37 K (nI d) (nI h) x3 (nI e) (nI nD) st FU 0 (nI h) = K (bI (secA mc d h e 24)) := by
  have hend : ∀ n, f_X6_second_L37 K (nI d) (nI h) x3 (nI e) (nI nD) st (n + 1) (bI (secA mc d h e 24)) (nI 24) = K (bI (secA mc d h e 24)) := fun n => by
    rw [f_X6_second_L37, if_pos (by decide)]
  have hst : ∀ n i, h ≤ i → i < 24 → f_X6_second_L37 K (nI d) (nI h) x3 (nI e) (nI nD) st (n + 1) (bI (secA mc d h e i)) (nI i) = f_X6_second_L37 K (nI d) (nI h) x3 (nI e) (nI nD) st n (bI (secA mc d h e (i + 1))) (nI (i + 1)) := fun n i hl hi => by
    have l1 := lk_lt (mV mc e) i
    have l2 := lk_lt (mV mc d) h
    have hs : secA mc d h e (i + 1) = (secA mc d h e i || decide (lk (mV mc e) i = lk (mV mc d) h)) := by
      unfold secA
      rw [anyB, decide_eq_true hl, Bool.true_and]
    rw [f_X6_second_L37, if_neg (show ¬ (24 : Int32) ≤ nI i from nI_ge (b := 24) (by omega) (by decide)), if_bI, hs]
    by_cases ha : secA mc d h e i = true
    · rw [if_pos ha, ha, Bool.true_or, f_X6_second_J71, nI_1]
      rfl
    · have hf : secA mc d h e i = false := by cases q : secA mc d h e i with | true => exact absurd q ha | false => rfl
      rw [if_neg ha, hf, Bool.false_or, e_looksV hMt hD5 he hi, Option.bind_some, e_looksV hMt hD5 hd hh, Option.bind_some]
      by_cases q : lk (mV mc e) i = lk (mV mc d) h
      · rw [if_pos (by rw [q]), f_X6_second_J71, nI_1, decide_eq_true q]
        rfl
      · rw [if_neg (fun z => q ((nI_eq (by omega) (by omega)).mp z)), f_X6_second_J71, nI_1, decide_eq_false q]
        rfl
  have hg := lp (fun n i => f_X6_second_L37 K (nI d) (nI h) x3 (nI e) (nI nD) st n (bI (secA mc d h e i)) (nI i)) 24 hend h hst (by omega) (by omega)
  have h0 : secA mc d h e h = false := anyB_no h fun j hj => by rw [decide_eq_false (by omega)]; rfl
  rw [h0] at hg
  exact hg
theorem second6 {mc st : Nat → Int32} {nD d h : Nat} (hMt : RMt (nI nD) mc st 0 nD) (hD5 : nD ≤ 5) (hd : d < nD) (hh : h < 24) : f_X6_second_L22 (nI d) (nI h) (nI nD) st FU 0 0 = some (nI (cnt (secB mc d h) nD)) := by
  have hend : ∀ n, f_X6_second_L22 (nI d) (nI h) (nI nD) st (n + 1) (nI (cnt (secB mc d h) nD)) (nI nD) = some (nI (cnt (secB mc d h) nD)) := fun n => by
    rw [f_X6_second_L22, if_pos (nI_le (Nat.le_refl _) (by omega))]
  have hst : ∀ n i, 0 ≤ i → i < nD → f_X6_second_L22 (nI d) (nI h) (nI nD) st (n + 1) (nI (cnt (secB mc d h) i)) (nI i) = f_X6_second_L22 (nI d) (nI h) (nI nD) st n (nI (cnt (secB mc d h) (i + 1))) (nI (i + 1)) := fun n i _ hi => by
    have hz : secB mc d h i = (!decide (i = d) && secA mc d h i 24) := by unfold secB secA; rw [seenN_tb]
    rw [f_X6_second_L22, if_neg (nI_ge (by omega) (by omega)), second6in hMt hD5 hd hi hh, f_X6_second_X79, cnt, hz]
    by_cases hid : i = d
    · rw [if_pos (by rw [hid]), f_X6_second_J96, nI_1, decide_eq_true hid, show nI (cnt (secB mc d h) i) + 0 = nI (cnt (secB mc d h) i + 0) from nI_add _ 0]
      rfl
    · have hne : ¬ nI i = nI d := fun q => hid ((nI_eq (by omega) (by omega)).mp q)
      rw [if_neg hne, if_bI, decide_eq_false hid]
      by_cases ha : secA mc d h i 24 = true
      · rw [if_pos ha, ha, f_X6_second_J96, nI_1, nI_1]
        rfl
      · have hf : secA mc d h i 24 = false := by cases q : secA mc d h i 24 with | true => exact absurd q ha | false => rfl
        rw [if_neg ha, hf, f_X6_second_J96, nI_1, show nI (cnt (secB mc d h) i) + 0 = nI (cnt (secB mc d h) i + 0) from nI_add _ 0]
        rfl
  exact lp (fun n i => f_X6_second_L22 (nI d) (nI h) (nI nD) st n (nI (cnt (secB mc d h) i)) (nI i)) nD hend 0 hst (Nat.zero_le _) (by omega)
theorem op_second (sc : Nat → Int32) (ar : Nat → Nat → Int32) (lg : Nat → Int64) (hR : Rel sc ar lg) (y1 : Int32) (y2 : Int32) :
    ∃ (q : Int32) (q' : Int32), f_X5_second (sc 30) (ar 14) y1 y2 = some q ∧ f_X6_second (sc 46) (ar 34) y1 y2 = some q' ∧ q = q' ∧ Rel sc ar lg := by
  obtain ⟨hM, hT, hTx, nD, nA, nS, nN, hD5, hDi, hAs, hSp, hNo, ⟨hMt, hN2⟩, hIm⟩ := id hR
  have hMt0 : RMt (nI nD) (ar 14) (ar 34) 0 nD := ⟨rfl, hMt.2⟩
  unfold f_X5_second f_X6_second
  rw [hDi, hMt.1, t5_dish, t6_dish (by omega), t5_hour, t6_hour]
  rcases tst_or (n := nD) (by omega) y1 with h | ⟨h, d, hd, rfl⟩
  · rw [if_pos h, if_pos h]
    exact ⟨_, _, rfl, rfl, rfl, hR⟩
  rw [if_neg (tst_ne hd (by omega)), if_neg (tst_ne hd (by omega))]
  rcases tst_or (n := 24) (by decide) y2 with h2 | ⟨h2, k, hk, rfl⟩
  · rw [if_pos h2, if_pos h2]
    exact ⟨_, _, rfl, rfl, rfl, hR⟩
  rw [if_neg (tst_ne hk (by decide)), if_neg (tst_ne hk (by decide)), e_placeV hMt0 hD5 hd hk, second5 hMt0 hD5 hd hk, second6 hMt0 hD5 hd hk]
  exact ⟨_, _, rfl, rfl, rfl, hR⟩
