/-! could, must: which speakers fit -/
def spN (fr : Nat) : Nat → Nat := orN (fun t => if fr ≤ t then 2 ^ t else 0)
theorem spN_s {fr i : Nat} (h : fr ≤ i) : spN fr (i + 1) = spN fr i ||| 2 ^ i := by
  unfold spN
  rw [orN, if_pos h]
theorem spN_0 {fr : Nat} : spN fr fr = 0 := (orN_0 fr).2 fun i hi => if_neg (by omega)
theorem spN_lt {fr n : Nat} (hn : n ≤ 24) : spN fr n < 2 ^ 24 := orN_lt n fun i hi => by
  by_cases h : fr ≤ i
  · rw [if_pos h]; exact p24 (by omega)
  · rw [if_neg h]; exact Nat.two_pow_pos 24
theorem spN_tb {fr n t : Nat} : (spN fr n).testBit t = true ↔ fr ≤ t ∧ t < n := by
  unfold spN
  rw [orN_tb, anyB_iff]
  constructor
  · rintro ⟨i, hi, h⟩
    by_cases q : fr ≤ i
    · rw [if_pos q, Nat.testBit_two_pow, decide_eq_true_iff] at h
      exact ⟨by omega, by omega⟩
    · rw [if_neg q, Nat.zero_testBit] at h
      exact absurd h (by decide)
  · rintro ⟨h1, h2⟩
    exact ⟨t, h2, by rw [if_pos h1, Nat.testBit_two_pow, decide_eq_true_iff]⟩
theorem and_sub {s m : Nat} : (s &&& m = m) ↔ ∀ t, m.testBit t = true → s.testBit t = true := by
  constructor
  · intro h t ht
    rw [← h, Nat.testBit_and, Bool.and_eq_true] at ht
    exact ht.1
  · intro h
    apply Nat.eq_of_testBit_eq
    intro t
    rw [Nat.testBit_and]
    cases q : m.testBit t with
    | true => rw [h t q]; rfl
    | false => rw [Bool.and_false]
theorem and_dis {s m : Nat} : (s &&& m = 0) ↔ ∀ t, m.testBit t = true → ¬ s.testBit t = true := by
  constructor
  · intro h t ht hs
    have e : (s &&& m).testBit t = false := by rw [h, Nat.zero_testBit]
    rw [Nat.testBit_and, ht, hs] at e
    exact absurd e (by decide)
  · intro h
    apply Nat.eq_of_testBit_eq
    intro t
    rw [Nat.testBit_and, Nat.zero_testBit]
    cases q : m.testBit t with
    | true =>
      cases r : s.testBit t with
      | true => exact absurd r (h t q)
      | false => rfl
    | false => rw [Bool.and_false]
def fitB (m b fr to : Nat) : Bool := decide (spN fr (to + 1) &&& m = m) && decide (spN fr (to + 1) &&& b = 0)
theorem fit_iff {m b fr to : Nat} : fitB m b fr to = true ↔ (∀ t, m.testBit t = true → fr ≤ t ∧ t ≤ to) ∧ (∀ t, b.testBit t = true → ¬ (fr ≤ t ∧ t ≤ to)) := by
  unfold fitB
  rw [Bool.and_eq_true, decide_eq_true_iff, decide_eq_true_iff, and_sub, and_dis]
  have e : ∀ t, (spN fr (to + 1)).testBit t = true ↔ fr ≤ t ∧ t ≤ to := fun t => by rw [spN_tb]; exact ⟨fun h => ⟨h.1, by omega⟩, fun h => ⟨h.1, by omega⟩⟩
  constructor
  · rintro ⟨h1, h2⟩
    exact ⟨fun t ht => (e t).mp (h1 t ht), fun t ht q => h2 t ht ((e t).mpr q)⟩
  · rintro ⟨h1, h2⟩
    exact ⟨fun t ht => (e t).mpr (h1 t ht), fun t ht q => h2 t ht ((e t).mp q)⟩
def spQ (m b fr to : Nat) : Bool := decide (fr ≤ to) && fitB m b fr to
theorem span5in {K : Int32 → Option Int32} {m b fr a : Nat} (hm : m < 2 ^ 24) (hf : fr < 24) : f_X0_spansThatFit_L51 K (nI m) (nI b) (nI fr) FU (nI a) 0 (nI fr) = K (nI (a + cnt (spQ m b fr) 24)) := by
  have hend : ∀ n, f_X0_spansThatFit_L51 K (nI m) (nI b) (nI fr) (n + 1) (nI (a + cnt (spQ m b fr) 24)) (nI (spN fr 24)) (nI 24) = K (nI (a + cnt (spQ m b fr) 24)) := fun n => by
    rw [f_X0_spansThatFit_L51, if_pos (by decide)]
  have hst : ∀ n i, fr ≤ i → i < 24 → f_X0_spansThatFit_L51 K (nI m) (nI b) (nI fr) (n + 1) (nI (a + cnt (spQ m b fr) i)) (nI (spN fr i)) (nI i) = f_X0_spansThatFit_L51 K (nI m) (nI b) (nI fr) n (nI (a + cnt (spQ m b fr) (i + 1))) (nI (spN fr (i + 1))) (nI (i + 1)) := fun n i hl hi => by
    have h1 : spN fr (i + 1) &&& m < 2 ^ 24 := Nat.and_lt_two_pow _ hm
    have h2 : spN fr (i + 1) &&& b < 2 ^ 24 := Nat.lt_of_le_of_lt Nat.and_le_left (spN_lt (by omega))
    have hq : spQ m b fr i = fitB m b fr i := by unfold spQ; rw [decide_eq_true hl, Bool.true_and]
    rw [f_X0_spansThatFit_L51, if_neg (show ¬ (24 : Int32) ≤ nI i from nI_ge (b := 24) hi (by decide)), b_bit _ (by omega), b_or, ← spN_s hl, b_and, b_and, cnt, hq]
    by_cases q1 : spN fr (i + 1) &&& m = m
    · rw [if_pos (by rw [q1])]
      by_cases q2 : spN fr (i + 1) &&& b = 0
      · have z : fitB m b fr i = true := by unfold fitB; rw [decide_eq_true q1, decide_eq_true q2]; rfl
        rw [if_pos (by rw [q2]; rfl), f_X0_spansThatFit_J88, nI_1, nI_1, z, if_pos rfl, Nat.add_assoc]
      · have z : fitB m b fr i = false := by unfold fitB; rw [decide_eq_false q2, Bool.and_false]
        rw [if_neg (nI_ne0 (Nat.pos_of_ne_zero q2) (by omega)), f_X0_spansThatFit_J88, nI_1, z, if_neg (by decide)]
        rfl
    · have z : fitB m b fr i = false := by unfold fitB; rw [decide_eq_false q1, Bool.false_and]
      rw [if_neg (fun w => q1 ((nI_eq (by omega) (by omega)).mp w)), f_X0_spansThatFit_J88, nI_1, z, if_neg (by decide)]
      rfl
  have h := lp (fun n i => f_X0_spansThatFit_L51 K (nI m) (nI b) (nI fr) n (nI (a + cnt (spQ m b fr) i)) (nI (spN fr i)) (nI i)) 24 hend fr hst (by omega) (by omega)
  have hz : cnt (spQ m b fr) fr = 0 := cnt_z fr fun i hi => by unfold spQ; rw [decide_eq_false (by omega)]; rfl
  rw [spN_0, hz, Nat.add_zero] at h
  exact h
def spS (m b : Nat) : Nat → Nat := sumN (fun fr => cnt (spQ m b fr) 24)
theorem span5 {m b : Nat} (hm : m < 2 ^ 24) : f_X0_spansThatFit_L37 (nI m) (nI b) FU 0 0 = some (nI (spS m b 24)) := by
  have hend : ∀ n, f_X0_spansThatFit_L37 (nI m) (nI b) (n + 1) (nI (spS m b 24)) (nI 24) = some (nI (spS m b 24)) := fun n => by
    rw [f_X0_spansThatFit_L37, if_pos (by decide)]
  have hst : ∀ n i, 0 ≤ i → i < 24 → f_X0_spansThatFit_L37 (nI m) (nI b) (n + 1) (nI (spS m b i)) (nI i) = f_X0_spansThatFit_L37 (nI m) (nI b) n (nI (spS m b (i + 1))) (nI (i + 1)) := fun n i _ hi => by
    rw [f_X0_spansThatFit_L37, if_neg (show ¬ (24 : Int32) ≤ nI i from nI_ge (b := 24) hi (by decide)), span5in hm hi, f_X0_spansThatFit_X94, nI_1]
    rfl
  exact lp (fun n i => f_X0_spansThatFit_L37 (nI m) (nI b) n (nI (spS m b i)) (nI i)) 24 hend 0 hst (by decide) (by decide)
def spT (mc c : Nat → Int32) (v p g hrs : Nat) : Nat := if anyB (elsB mc c v p) g = true then 0 else spS (orN (lgN mc c v p 1) g ||| hrs) (orN (lgN mc c v p 0) g) 24
theorem e_spans {mc c st : Nat → Int32} {nD g v p hrs : Nat} (hMt : RMt (nI nD) mc st 0 nD) (hD : nD ≤ 5) (hLo : RLo (nI g) c st 0 nD g) (hv : v < 10) (hp : p < 8) (hh : hrs < 2 ^ 24) : f_X0_spansThatFit (nI g) c (nI nD) mc (nI v) (nI p) (nI hrs) = some (nI (spT mc c v p g hrs)) := by
  have w1 : f_X0_hoursLogged (nI g) c (nI nD) mc (nI v) (nI p) 1 = some (nI (orN (lgN mc c v p 1) g)) := e_hoursLogged (w := 1) hMt hD hLo hv hp (by decide)
  have w0 : f_X0_hoursLogged (nI g) c (nI nD) mc (nI v) (nI p) 0 = some (nI (orN (lgN mc c v p 0) g)) := e_hoursLogged (w := 0) hMt hD hLo hv hp (by decide)
  unfold f_X0_spansThatFit spT
  rw [e_els hMt hD hLo hv hp, Option.bind_some, if_bI]
  by_cases q : anyB (elsB mc c v p) g = true
  · rw [if_pos q, if_pos q]; rfl
  · rw [if_neg q, if_neg q, w1, Option.bind_some, w0, Option.bind_some, b_or]
    exact span5 (Nat.or_lt_two_pow (lgN_lt hLo) hh)
theorem could5 {mc c st : Nat → Int32} {nD g v : Nat} (hMt : RMt (nI nD) mc st 0 nD) (hD : nD ≤ 5) (hLo : RLo (nI g) c st 0 nD g) (hv : v < 10) : f_X5_speakersThatFit (nI g) c (nI nD) mc (nI v) = some (nI (sumN (fun p => spT mc c v p g 0) 8)) := by
  unfold f_X5_speakersThatFit
  have hend : ∀ n, f_X5_speakersThatFit_L4 (nI v) (nI g) c (nI nD) mc (n + 1) (nI (sumN (fun p => spT mc c v p g 0) 8)) (nI 8) = some (nI (sumN (fun p => spT mc c v p g 0) 8)) := fun n => by
    rw [f_X5_speakersThatFit_L4, if_pos (by decide)]
  have hst : ∀ n i, 0 ≤ i → i < 8 → f_X5_speakersThatFit_L4 (nI v) (nI g) c (nI nD) mc (n + 1) (nI (sumN (fun p => spT mc c v p g 0) i)) (nI i) = f_X5_speakersThatFit_L4 (nI v) (nI g) c (nI nD) mc n (nI (sumN (fun p => spT mc c v p g 0) (i + 1))) (nI (i + 1)) := fun n i _ hi => by
    have e : f_X0_spansThatFit (nI g) c (nI nD) mc (nI v) (nI i) 0 = some (nI (spT mc c v i g 0)) := e_spans (hrs := 0) hMt hD hLo hv hi (by decide)
    rw [f_X5_speakersThatFit_L4, if_neg (show ¬ (8 : Int32) ≤ nI i from nI_ge (b := 8) hi (by decide)), e, Option.bind_some, nI_add, nI_1, sumN]
  exact lp (fun n i => f_X5_speakersThatFit_L4 (nI v) (nI g) c (nI nD) mc n (nI (sumN (fun p => spT mc c v p g 0) i)) (nI i)) 8 hend 0 hst (by decide) (by decide)
/-! the reference goes through all speakers -/
def maQ (mc c : Nat → Int32) (v g p fr to : Nat) : Bool := decide (fr ≤ to) && allB (mayB mc c v p fr to) g
def heQ (mc c : Nat → Int32) (v g pl hr p fr to : Nat) : Bool := decide (fr ≤ to) && (allB (mayB mc c v p fr to) g && (decide (p = pl) && (decide (fr ≤ hr) && decide (hr ≤ to))))
theorem find6a {K : Int32 → Int32 → Option (Int32 × Int32)} {mc c st : Nat → Int32} {nD g v pl hr p fr a b : Nat} (hMt : RMt (nI nD) mc st 0 nD) (hD : nD ≤ 5) (hLo : RLo (nI g) c st 0 nD g) (hv : v < 10) (hpl : pl < 8) (hhr : hr < 24) (hp : p < 8) (hf : fr < 24) : f_X6_findCould_L34 K (nI v) (nI pl) (nI hr) (nI p) (nI fr) st FU (nI fr) (nI a) (nI b) = K (nI (a + cnt (maQ mc c v g p fr) 24)) (nI (b + cnt (heQ mc c v g pl hr p fr) 24)) := by
  have hend : ∀ n, f_X6_findCould_L34 K (nI v) (nI pl) (nI hr) (nI p) (nI fr) st (n + 1) (nI 24) (nI (a + cnt (maQ mc c v g p fr) 24)) (nI (b + cnt (heQ mc c v g pl hr p fr) 24)) = K (nI (a + cnt (maQ mc c v g p fr) 24)) (nI (b + cnt (heQ mc c v g pl hr p fr) 24)) := fun n => by
    rw [f_X6_findCould_L34, if_pos (by decide)]
  have hst : ∀ n i, fr ≤ i → i < 24 → f_X6_findCould_L34 K (nI v) (nI pl) (nI hr) (nI p) (nI fr) st (n + 1) (nI i) (nI (a + cnt (maQ mc c v g p fr) i)) (nI (b + cnt (heQ mc c v g pl hr p fr) i)) = f_X6_findCould_L34 K (nI v) (nI pl) (nI hr) (nI p) (nI fr) st n (nI (i + 1)) (nI (a + cnt (maQ mc c v g p fr) (i + 1))) (nI (b + cnt (heQ mc c v g pl hr p fr) (i + 1))) := fun n i hl hi => by
    have hm : maQ mc c v g p fr i = allB (mayB mc c v p fr i) g := by unfold maQ; rw [decide_eq_true hl, Bool.true_and]
    have hh : heQ mc c v g pl hr p fr i = (allB (mayB mc c v p fr i) g && (decide (p = pl) && (decide (fr ≤ hr) && decide (hr ≤ i)))) := by unfold heQ; rw [decide_eq_true hl, Bool.true_and]
    rw [f_X6_findCould_L34, if_neg (show ¬ (24 : Int32) ≤ nI i from nI_ge (b := 24) hi (by decide)), e_may hMt hD hLo hv hp hf hi, Option.bind_some, cnt, cnt, hm, hh]
    have a0 : ∀ k : Nat, nI k + 0 = nI k := fun k => nI_add k 0
    cases q : allB (mayB mc c v p fr i) g with
    | false =>
      rw [bI_f, if_pos e00, f_X6_findCould_J69, if_pos e00, f_X6_findCould_J105, nI_1, a0, a0]
      rfl
    | true =>
      rw [bI_t, if_neg n10, f_X6_findCould_J69, if_neg n10, nI_1, if_pos rfl, Bool.true_and, ← Nat.add_assoc, ← Nat.add_assoc]
      by_cases q1 : p = pl
      · rw [if_pos (by rw [q1]), in_ite, decide_eq_true q1, Bool.true_and]
        by_cases r : hr < fr
        · rw [if_pos (nI_lt r (by omega)), f_X6_findCould_J105, nI_1, a0, decide_eq_false (show ¬ fr ≤ hr by omega)]
          rfl
        rw [if_neg (nI_nlt (by omega) (by omega)), decide_eq_true (show fr ≤ hr by omega), Bool.true_and]
        by_cases r2 : i < hr
        · rw [if_pos (nI_lt r2 (by omega)), f_X6_findCould_J105, nI_1, a0, decide_eq_false (show ¬ hr ≤ i by omega)]
          rfl
        rw [if_neg (nI_nlt (by omega) (by omega)), f_X6_findCould_J105, nI_1, nI_1, decide_eq_true (show hr ≤ i by omega)]
        rfl
      · rw [if_neg (fun w => q1 ((nI_eq (by omega) (by omega)).mp w)), f_X6_findCould_J105, nI_1, a0, decide_eq_false q1]
        rfl
  have h := lp (fun n i => f_X6_findCould_L34 K (nI v) (nI pl) (nI hr) (nI p) (nI fr) st n (nI i) (nI (a + cnt (maQ mc c v g p fr) i)) (nI (b + cnt (heQ mc c v g pl hr p fr) i))) 24 hend fr hst (by omega) (by omega)
  have z1 : cnt (maQ mc c v g p fr) fr = 0 := cnt_z fr fun i hi => by unfold maQ; rw [decide_eq_false (by omega)]; rfl
  have z2 : cnt (heQ mc c v g pl hr p fr) fr = 0 := cnt_z fr fun i hi => by unfold heQ; rw [decide_eq_false (by omega)]; rfl
  rw [z1, z2, Nat.add_zero, Nat.add_zero] at h
  exact h
def maS (mc c : Nat → Int32) (v g p : Nat) : Nat → Nat := sumN (fun fr => cnt (maQ mc c v g p fr) 24)
def heS (mc c : Nat → Int32) (v g pl hr p : Nat) : Nat → Nat := sumN (fun fr => cnt (heQ mc c v g pl hr p fr) 24)
theorem find6b {K : Int32 → Int32 → Option (Int32 × Int32)} {mc c st : Nat → Int32} {nD g v pl hr p a b : Nat} (hMt : RMt (nI nD) mc st 0 nD) (hD : nD ≤ 5) (hLo : RLo (nI g) c st 0 nD g) (hv : v < 10) (hpl : pl < 8) (hhr : hr < 24) (hp : p < 8) : f_X6_findCould_L23 K (nI v) (nI pl) (nI hr) (nI p) st FU 0 (nI a) (nI b) = K (nI (a + maS mc c v g p 24)) (nI (b + heS mc c v g pl hr p 24)) := by
  have hend : ∀ n, f_X6_findCould_L23 K (nI v) (nI pl) (nI hr) (nI p) st (n + 1) (nI 24) (nI (a + maS mc c v g p 24)) (nI (b + heS mc c v g pl hr p 24)) = K (nI (a + maS mc c v g p 24)) (nI (b + heS mc c v g pl hr p 24)) := fun n => by
    rw [f_X6_findCould_L23, if_pos (by decide)]
  have hst : ∀ n i, 0 ≤ i → i < 24 → f_X6_findCould_L23 K (nI v) (nI pl) (nI hr) (nI p) st (n + 1) (nI i) (nI (a + maS mc c v g p i)) (nI (b + heS mc c v g pl hr p i)) = f_X6_findCould_L23 K (nI v) (nI pl) (nI hr) (nI p) st n (nI (i + 1)) (nI (a + maS mc c v g p (i + 1))) (nI (b + heS mc c v g pl hr p (i + 1))) := fun n i _ hi => by
    rw [f_X6_findCould_L23, if_neg (show ¬ (24 : Int32) ≤ nI i from nI_ge (b := 24) hi (by decide)), find6a hMt hD hLo hv hpl hhr hp hi, f_X6_findCould_X115, nI_1, Nat.add_assoc, Nat.add_assoc]
    rfl
  exact lp (fun n i => f_X6_findCould_L23 K (nI v) (nI pl) (nI hr) (nI p) st n (nI i) (nI (a + maS mc c v g p i)) (nI (b + heS mc c v g pl hr p i))) 24 hend 0 hst (by decide) (by decide)
theorem find6 {mc c st : Nat → Int32} {x y : Int32} {nD g v pl hr : Nat} (hMt : RMt (nI nD) mc st 0 nD) (hD : nD ≤ 5) (hLo : RLo (nI g) c st 0 nD g) (hv : v < 10) (hpl : pl < 8) (hhr : hr < 24) : f_X6_findCould x y st (nI v) (nI pl) (nI hr) = some (nI (sumN (fun p => maS mc c v g p 24) 8), nI (sumN (fun p => heS mc c v g pl hr p 24) 8)) := by
  unfold f_X6_findCould
  have hend : ∀ n, f_X6_findCould_L13 (nI v) (nI pl) (nI hr) st (n + 1) (nI 8) (nI (sumN (fun p => maS mc c v g p 24) 8)) (nI (sumN (fun p => heS mc c v g pl hr p 24) 8)) = some (nI (sumN (fun p => maS mc c v g p 24) 8), nI (sumN (fun p => heS mc c v g pl hr p 24) 8)) := fun n => by
    rw [f_X6_findCould_L13, if_pos (by decide)]
  have hst : ∀ n i, 0 ≤ i → i < 8 → f_X6_findCould_L13 (nI v) (nI pl) (nI hr) st (n + 1) (nI i) (nI (sumN (fun p => maS mc c v g p 24) i)) (nI (sumN (fun p => heS mc c v g pl hr p 24) i)) = f_X6_findCould_L13 (nI v) (nI pl) (nI hr) st n (nI (i + 1)) (nI (sumN (fun p => maS mc c v g p 24) (i + 1))) (nI (sumN (fun p => heS mc c v g pl hr p 24) (i + 1))) := fun n i _ hi => by
    rw [f_X6_findCould_L13, if_neg (show ¬ (8 : Int32) ≤ nI i from nI_ge (b := 8) hi (by decide)), find6b hMt hD hLo hv hpl hhr hi, f_X6_findCould_X121, nI_1]
    rfl
  exact lp (fun n i => f_X6_findCould_L13 (nI v) (nI pl) (nI hr) st n (nI i) (nI (sumN (fun p => maS mc c v g p 24) i)) (nI (sumN (fun p => heS mc c v g pl hr p 24) i))) 8 hend 0 hst (by decide) (by decide)
/-! both count the same -/
theorem may_pt {mc c : Nat → Int32} {v p fr to i : Nat} (h3 : gI c i < 2) : (elsB mc c v p i = false ∧ (lgdB c v 1 i = true → gP mc c i = p → fr ≤ gH c i ∧ gH c i ≤ to) ∧ (lgdB c v 0 i = true → gP mc c i = p → ¬ (fr ≤ gH c i ∧ gH c i ≤ to))) ↔ mayB mc c v p fr to i = true := by
  unfold elsB mayB soB lgdB
  by_cases q1 : gN c i = v
  · by_cases q2 : gP mc c i = p
    · by_cases q3 : fr ≤ gH c i
      · by_cases q4 : gH c i ≤ to
        · rcases (show gI c i = 0 ∨ gI c i = 1 by omega) with r | r <;> simp [r, q1, q2, q3, q4]
        · rcases (show gI c i = 0 ∨ gI c i = 1 by omega) with r | r <;> simp [r, q1, q2, q3, q4]
      · rcases (show gI c i = 0 ∨ gI c i = 1 by omega) with r | r <;> simp [r, q1, q2, q3]
    · rcases (show gI c i = 0 ∨ gI c i = 1 by omega) with r | r <;> simp [r, q1, q2]
  · simp [q1]
theorem lgN_tb {mc c : Nat → Int32} {v p w i t : Nat} : (lgN mc c v p w i).testBit t = true ↔ lgdB c v w i = true ∧ gP mc c i = p ∧ gH c i = t := by
  unfold lgN
  by_cases q : lgdB c v w i = true
  · rw [if_pos q]
    by_cases r : gP mc c i = p
    · rw [if_pos r, Nat.testBit_two_pow, decide_eq_true_iff]
      exact ⟨fun h => ⟨q, r, h⟩, fun h => h.2.2⟩
    · rw [if_neg r, Nat.zero_testBit]
      exact ⟨fun h => absurd h (by decide), fun h => absurd h.2.1 r⟩
  · rw [if_neg q, Nat.zero_testBit]
    exact ⟨fun h => absurd h (by decide), fun h => absurd h.1 q⟩
theorem fit_pt {mc c st : Nat → Int32} {nD g v p fr to hrs : Nat} {hQ : Bool} (hLo : RLo (nI g) c st 0 nD g) (hels : anyB (elsB mc c v p) g = false) (hh : (∀ t, hrs.testBit t = true → fr ≤ t ∧ t ≤ to) ↔ hQ = true) : fitB (orN (lgN mc c v p 1) g ||| hrs) (orN (lgN mc c v p 0) g) fr to = (allB (mayB mc c v p fr to) g && hQ) := by
  rw [Bool.eq_iff_iff, fit_iff, Bool.and_eq_true, ← hh, allB_iff]
  have he := (anyB_f g).mp hels
  constructor
  · rintro ⟨h1, h2⟩
    refine ⟨fun i hi => (may_pt (gf3 hLo hi).2.1).mp ⟨he i hi, fun a b => ?_, fun a b => ?_⟩, fun t ht => h1 t (by rw [Nat.testBit_or, ht, Bool.or_true])⟩
    · refine h1 (gH c i) ?_
      have hx : anyB (fun i_1 => (lgN mc c v p 1 i_1).testBit (gH c i)) g = true := (anyB_iff g).mpr ⟨i, hi, lgN_tb.mpr ⟨a, b, rfl⟩⟩
      rw [Nat.testBit_or, orN_tb, hx, Bool.true_or]
    · refine h2 (gH c i) ?_
      rw [orN_tb]
      exact (anyB_iff g).mpr ⟨i, hi, lgN_tb.mpr ⟨a, b, rfl⟩⟩
  · rintro ⟨h1, h2⟩
    refine ⟨fun t ht => ?_, fun t ht => ?_⟩
    · rw [Nat.testBit_or, Bool.or_eq_true, orN_tb, anyB_iff] at ht
      rcases ht with ⟨i, hi, hb⟩ | hb
      · obtain ⟨a, b, rfl⟩ := lgN_tb.mp hb
        exact ((may_pt (gf3 hLo hi).2.1).mpr (h1 i hi)).2.1 a b
      · exact h2 t hb
    · rw [orN_tb, anyB_iff] at ht
      obtain ⟨i, hi, hb⟩ := ht
      obtain ⟨a, b, rfl⟩ := lgN_tb.mp hb
      exact ((may_pt (gf3 hLo hi).2.1).mpr (h1 i hi)).2.2 a b
theorem spT_eq {mc c st : Nat → Int32} {nD g v p hrs : Nat} {hQ : Nat → Nat → Bool} (hLo : RLo (nI g) c st 0 nD g) (hh : ∀ fr to, (∀ t, hrs.testBit t = true → fr ≤ t ∧ t ≤ to) ↔ hQ fr to = true) : spT mc c v p g hrs = sumN (fun fr => cnt (fun to => decide (fr ≤ to) && (allB (mayB mc c v p fr to) g && hQ fr to)) 24) 24 := by
  unfold spT
  cases q : anyB (elsB mc c v p) g with
  | true =>
    rw [if_pos rfl]
    refine (sumN_z 24 fun fr _ => cnt_z 24 fun to _ => ?_).symm
    obtain ⟨i, hi, he⟩ := (anyB_iff g).mp q
    have hm : mayB mc c v p fr to i = false := by
      cases r : mayB mc c v p fr to i with
      | false => rfl
      | true => rw [((may_pt (gf3 hLo hi).2.1).mpr r).1] at he; exact absurd he (by decide)
    rw [allB_no hm g hi, Bool.false_and, Bool.and_false]
  | false =>
    rw [if_neg (by decide)]
    refine sumN_congr 24 fun fr _ => cnt_congr 24 fun to _ => ?_
    unfold spQ
    rw [fit_pt hLo q (hh fr to)]
theorem spT_0 {mc c st : Nat → Int32} {nD g v p : Nat} (hLo : RLo (nI g) c st 0 nD g) : spT mc c v p g 0 = maS mc c v g p 24 := by
  rw [spT_eq (hQ := fun _ _ => true) hLo (fun fr to => ⟨fun _ => rfl, fun _ t ht => by rw [Nat.zero_testBit] at ht; exact absurd ht (by decide)⟩)]
  exact sumN_congr 24 fun fr _ => cnt_congr 24 fun to _ => by rw [Bool.and_true]; rfl
theorem spT_h {mc c st : Nat → Int32} {nD g v pl hr : Nat} (hLo : RLo (nI g) c st 0 nD g) (hpl : pl < 8) : spT mc c v pl g (2 ^ hr) = sumN (fun p => heS mc c v g pl hr p 24) 8 := by
  rw [spT_eq (hQ := fun fr to => decide (fr ≤ hr) && decide (hr ≤ to)) hLo (fun fr to => by
    rw [Bool.and_eq_true, decide_eq_true_iff, decide_eq_true_iff]
    constructor
    · intro h
      exact h hr (by rw [Nat.testBit_two_pow, decide_eq_true_iff])
    · intro h t ht
      rw [Nat.testBit_two_pow, decide_eq_true_iff] at ht
      rw [← ht]
      exact h)]
  have e : sumN (fun p => heS mc c v g pl hr p 24) 8 = heS mc c v g pl hr pl 24 := sumN_one (f := fun p => heS mc c v g pl hr p 24) 8 hpl (fun p _ hne => sumN_z 24 fun fr _ => cnt_z 24 fun to _ => by unfold heQ; rw [decide_eq_false hne, Bool.false_and, Bool.and_false, Bool.and_false])
  rw [e]
  exact sumN_congr 24 fun fr _ => cnt_congr 24 fun to _ => by unfold heQ; rw [decide_eq_true (show pl = pl from rfl), Bool.true_and]
theorem op_could (sc : Nat → Int32) (ar : Nat → Nat → Int32) (lg : Nat → Int64) (hR : Rel sc ar lg) (y1 : Int32) :
    ∃ (q : Int32) (q' : Int32 × Int32 × Int32), f_X5_could (sc 28) (ar 13) (sc 30) (ar 14) y1 = some q ∧ f_X6_could (sc 60) (sc 61) (ar 34) y1 = some q' ∧ q = q'.1 ∧ Rel (uv (uv sc 60 q'.2.1) 61 q'.2.2) ar lg := by
  obtain ⟨hM, hT, hTx, nD, nA, nS, nN, hD5, hDi, hAs, hSp, hNo, ⟨hMt, nL, nG, nU, hLe, hLo, hUn⟩, hIm⟩ := id hR
  have hMt0 : RMt (nI nD) (ar 14) (ar 34) 0 nD := ⟨rfl, hMt.2⟩
  have hLo0 : RLo (nI nG) (ar 13) (ar 34) 0 nD nG := ⟨rfl, hLo.2⟩
  have fin : ∀ a b d : Int32, Rel (uv (uv sc 60 a) 61 b) ar lg := fun a b d => ⟨hM, hT, hTx, nD, nA, nS, nN, hD5, hDi, hAs, hSp, hNo, ⟨hMt, nL, nG, nU, hLe, hLo, hUn⟩, hIm⟩
  unfold f_X5_could f_X6_could
  rw [hLo.1, hMt.1, t5_note, t6_note]
  rcases tst_or (n := 10) (by decide) y1 with h | ⟨h, v, hv, rfl⟩
  · rw [if_pos h, if_pos h]
    exact ⟨_, _, rfl, rfl, rfl, fin _ _ 0⟩
  have e6 : f_X6_findCould (sc 60) (sc 61) (ar 34) (nI v) 0 0 = some (nI (sumN (fun p => maS (ar 14) (ar 13) v nG p 24) 8), nI (sumN (fun p => heS (ar 14) (ar 13) v nG 0 0 p 24) 8)) := find6 (pl := 0) (hr := 0) hMt0 hD5 hLo0 hv (by decide) (by decide)
  rw [if_neg (tst_ne hv (by decide)), if_neg (tst_ne hv (by decide)), could5 hMt0 hD5 hLo0 hv, e6, sumN_congr (g := fun p => maS (ar 14) (ar 13) v nG p 24) 8 (fun p _ => spT_0 hLo0)]
  exact ⟨_, _, rfl, rfl, rfl, fin _ _ 0⟩
theorem op_must (sc : Nat → Int32) (ar : Nat → Nat → Int32) (lg : Nat → Int64) (hR : Rel sc ar lg) (y1 : Int32) (y2 : Int32) (y3 : Int32) :
    ∃ (q : Int32) (q' : Int32 × Int32 × Int32), f_X5_must (sc 28) (ar 13) (sc 30) (ar 14) y1 y2 y3 = some q ∧ f_X6_must_ (sc 46) (sc 60) (sc 61) (ar 34) y1 y2 y3 = some q' ∧ q = q'.1 ∧ Rel (uv (uv sc 60 q'.2.1) 61 q'.2.2) ar lg := by
  obtain ⟨hM, hT, hTx, nD, nA, nS, nN, hD5, hDi, hAs, hSp, hNo, ⟨hMt, nL, nG, nU, hLe, hLo, hUn⟩, hIm⟩ := id hR
  have hMt0 : RMt (nI nD) (ar 14) (ar 34) 0 nD := ⟨rfl, hMt.2⟩
  have hLo0 : RLo (nI nG) (ar 13) (ar 34) 0 nD nG := ⟨rfl, hLo.2⟩
  have fin : ∀ a b d : Int32, Rel (uv (uv sc 60 a) 61 b) ar lg := fun a b d => ⟨hM, hT, hTx, nD, nA, nS, nN, hD5, hDi, hAs, hSp, hNo, ⟨hMt, nL, nG, nU, hLe, hLo, hUn⟩, hIm⟩
  unfold f_X5_must f_X6_must_
  rw [hDi, hLo.1, hMt.1, t5_note, t6_note, t5_dish, t6_dish (by omega), t5_hour, t6_hour]
  rcases tst_or (n := 10) (by decide) y1 with h | ⟨h, v, hv, rfl⟩
  · rw [if_pos h, if_pos h]
    exact ⟨_, _, rfl, rfl, rfl, fin _ _ 0⟩
  rw [if_neg (tst_ne hv (by decide)), if_neg (tst_ne hv (by decide))]
  rcases tst_or (n := nD) (by omega) y2 with h | ⟨h, d, hd, rfl⟩
  · rw [if_pos h, if_pos h]
    exact ⟨_, _, rfl, rfl, rfl, fin _ _ 0⟩
  rw [if_neg (tst_ne hd (by omega)), if_neg (tst_ne hd (by omega))]
  rcases tst_or (n := 24) (by decide) y3 with h | ⟨h, k, hk, rfl⟩
  · rw [if_pos h, if_pos h]
    exact ⟨_, _, rfl, rfl, rfl, fin _ _ 0⟩
  have hl := lk_lt (mV (ar 14) d) k
  rw [if_neg (tst_ne hk (by decide)), if_neg (tst_ne hk (by decide)), could5 hMt0 hD5 hLo0 hv, e_placeV hMt0 hD5 hd hk, e_looksV hMt0 hD5 hd hk, b_bit _ (by omega), e_spans hMt0 hD5 hLo0 hv hl (p24 hk), Option.bind_some, Option.bind_some, Option.bind_some, find6 hMt0 hD5 hLo0 hv hl hk, Option.bind_some, sumN_congr (g := fun p => maS (ar 14) (ar 13) v nG p 24) 8 (fun p _ => spT_0 hLo0), spT_h hLo0 hl]
  generalize nI (sumN (fun p => maS (ar 14) (ar 13) v nG p 24) 8) = A
  generalize nI (sumN (fun p => heS (ar 14) (ar 13) v nG (lk (mV (ar 14) d) k) k p 24) 8) = B
  by_cases a0 : A = 0
  · rw [if_pos a0, if_pos a0]
    exact ⟨_, _, rfl, rfl, rfl, fin _ _ 0⟩
  rw [if_neg a0, if_neg a0]
  by_cases ab : B = A
  · rw [if_pos ab, if_pos ab]
    exact ⟨_, _, rfl, rfl, rfl, fin _ _ 0⟩
  rw [if_neg ab, if_neg ab]
  by_cases b0 : B = 0
  · rw [if_pos b0, if_pos b0]
    exact ⟨_, _, rfl, rfl, rfl, fin _ _ 0⟩
  rw [if_neg b0, if_neg b0]
  exact ⟨_, _, rfl, rfl, rfl, fin _ _ 0⟩
