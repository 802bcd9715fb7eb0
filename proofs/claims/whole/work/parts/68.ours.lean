/-! ours: the laws of noises that fit -/
def lawB (c : Nat → Int32) (v e s i : Nat) : Bool := soB c v (decide (gH c i % e = s)) i
theorem e_lawful {h e s : Nat} (hh : h < 24) (he : 0 < e) (he2 : e ≤ 12) (hs : s < 13) : f_X4_isLawful (nI h) (nI e) (nI s) = bI (decide (h % e = s)) := by
  have hm : h % e < e := Nat.mod_lt _ he
  unfold f_X4_isLawful
  rw [if_neg (nI_nle he (by omega)), pk_rem (by omega) he (by omega)]
  by_cases q : h % e = s
  · rw [if_pos (by rw [q]), decide_eq_true q]; rfl
  · rw [if_neg (fun z => q ((nI_eq (by omega) (by omega)).mp z)), decide_eq_false q]; rfl
theorem lawB_pt {c : Nat → Int32} {v e s i : Nat} (h3 : gI c i < 2) : lawB c v e s i = !(lgdB c v (if gH c i % e = s then 0 else 1) i) := by
  unfold lawB soB lgdB
  rcases (show gI c i = 0 ∨ gI c i = 1 by omega) with r | r
  · by_cases q1 : gN c i = v
    · by_cases q2 : gH c i % e = s <;> simp [r, q1, q2]
    · simp [r, q1]
  · by_cases q1 : gN c i = v
    · by_cases q2 : gH c i % e = s <;> simp [r, q1, q2]
    · simp [r, q1]
theorem e_J46 {K : Int32 → Option Int32} {c st : Nat → Int32} {x1 x2 x3 : Int32} {nD g i v w : Nat} (hLo : RLo (nI g) c st 0 nD g) (hi : i < g) (hv : v < 10) (hw : w < 2) : f_X0_fitsLaw_J46 K x1 x2 x3 (nI i) (nI i) (nI v) (nI g) c (nI w) = if lgdB c v w i = true then some 0 else K (nI (i + 1)) := by
  rw [f_X0_fitsLaw_J46, e_isLogged hLo hi hv hw, if_bI, nI_1]
theorem e_fits {c st : Nat → Int32} {nD g v e s : Nat} (hLo : RLo (nI g) c st 0 nD g) (hv : v < 10) (he : 0 < e) (he2 : e ≤ 12) (hs : s < 13) : f_X0_fitsLaw (nI g) c (nI v) (nI e) (nI s) = some (bI (allB (lawB c v e s) g)) := by
  have hg := hLo.2.1
  unfold f_X0_fitsLaw
  have step : ∀ n i, i < g → f_X0_fitsLaw_L3 (nI v) (nI e) (nI s) (nI g) c (n + 1) (nI i) = if lawB c v e s i = true then f_X0_fitsLaw_L3 (nI v) (nI e) (nI s) (nI g) c n (nI (i + 1)) else some 0 := fun n i hi => by
    have h0 := gf0 hLo hi
    have h3 := gf3 hLo hi
    have j0 : ∀ K : Int32 → Option Int32, f_X0_fitsLaw_J46 K (nI v) (nI e) (nI s) (nI i) (nI i) (nI v) (nI g) c 0 = if lgdB c v 0 i = true then some 0 else K (nI (i + 1)) := fun K => e_J46 (w := 0) hLo hi hv (by decide)
    have j1 : ∀ K : Int32 → Option Int32, f_X0_fitsLaw_J46 K (nI v) (nI e) (nI s) (nI i) (nI i) (nI v) (nI g) c 1 = if lgdB c v 1 i = true then some 0 else K (nI (i + 1)) := fun K => e_J46 (w := 1) hLo hi hv (by decide)
    rw [f_X0_fitsLaw_L3, if_neg (nI_ge hi (by omega)), e_num0 hi (by omega), h0.1, e_lawful h0.2.1 he he2 hs, if_bI, j0, j1, lawB_pt h3.2.1]
    by_cases q : gH c i % e = s
    · rw [decide_eq_true q, if_pos rfl, if_pos q]
      cases lgdB c v 0 i <;> rfl
    · rw [decide_eq_false q, if_neg (by decide), if_neg q]
      cases lgdB c v 1 i <;> rfl
  have h := lpE (K0 := some 1) (K1 := some 0) (fun n i => f_X0_fitsLaw_L3 (nI v) (nI e) (nI s) (nI g) c n (nI i)) (fun i => !(lawB c v e s i)) g (fun n => by
      show f_X0_fitsLaw_L3 (nI v) (nI e) (nI s) (nI g) c (n + 1) (nI g) = some 1
      rw [f_X0_fitsLaw_L3, if_pos (nI_le (Nat.le_refl _) (by omega))]) (fun n i hi hP => by
      show f_X0_fitsLaw_L3 (nI v) (nI e) (nI s) (nI g) c (n + 1) (nI i) = some 0
      have hP' : (!(lawB c v e s i)) = true := hP
      rw [step n i hi]
      cases q : lawB c v e s i with
      | true => rw [q] at hP'; exact absurd hP' (by decide)
      | false => rfl) (fun n i hi hP => by
      show f_X0_fitsLaw_L3 (nI v) (nI e) (nI s) (nI g) c (n + 1) (nI i) = f_X0_fitsLaw_L3 (nI v) (nI e) (nI s) (nI g) c n (nI (i + 1))
      have hP' : (!(lawB c v e s i)) = false := hP
      rw [step n i hi]
      cases q : lawB c v e s i with
      | true => rfl
      | false => rw [q] at hP'; exact absurd hP' (by decide)) (by omega)
  refine Eq.trans (b := if anyB (fun i => !(lawB c v e s i)) g = true then some 0 else some 1) h ?_
  rw [any_not]
  cases allB (lawB c v e s) g <;> rfl
theorem e_J49 {K : Int32 → Option Int32} {c st : Nat → Int32} {x1 x2 x3 x5 : Int32} {nD g i v : Nat} (b : Bool) (hLo : RLo (nI g) c st 0 nD g) (hi : i < g) (hv : v < 10) : f_X6_mayBeOurs_J49 K x1 x2 x3 x5 (nI i) (nI v) st (bI b) = K (bI (soB c v b i)) := by
  rw [f_X6_mayBeOurs_J49, e_isSo b hLo hi hv, Option.bind_some, if_bI]
  cases soB c v b i <;> rfl
theorem e_mayOurs {c st : Nat → Int32} {nD g v e s : Nat} (hLo : RLo (nI g) c st 0 nD g) (hv : v < 10) (he : 0 < e) (he2 : e ≤ 12) (hs : s < 13) : f_X6_mayBeOurs st (nI v) (nI e) (nI s) = some (bI (allB (lawB c v e s) g)) := by
  have hg := hLo.2.1
  have g3 : st (Int32.toNatClampNeg 1) = nI g := hLo.2.2.1
  unfold f_X6_mayBeOurs
  have hend : ∀ n, f_X6_mayBeOurs_L6 (nI v) (nI e) (nI s) st (n + 1) (bI (allB (lawB c v e s) g)) (nI g) = some (bI (allB (lawB c v e s) g)) := fun n => by
    rw [f_X6_mayBeOurs_L6, g3, if_pos (nI_le (Nat.le_refl _) (by omega)), if_pos (bI_or _)]
  have hst : ∀ n i, 0 ≤ i → i < g → f_X6_mayBeOurs_L6 (nI v) (nI e) (nI s) st (n + 1) (bI (allB (lawB c v e s) i)) (nI i) = f_X6_mayBeOurs_L6 (nI v) (nI e) (nI s) st n (bI (allB (lawB c v e s) (i + 1))) (nI (i + 1)) := fun n i _ hi => by
    have hm : gH c i % e < e := Nat.mod_lt _ he
    obtain ⟨-, l0, s0⟩ := gf0 hLo hi
    have i0 : (44 : Int32) + 4 * nI i = nI (44 + 4 * i) := by rw [show (44 : Int32) = nI 44 from rfl, show (4 : Int32) = nI 4 from rfl, pk_mul, nI_add]
    have hJ : ∀ (b : Bool), lawB c v e s i = soB c v b i → f_X6_mayBeOurs_J49 (f_X6_mayBeOurs_J60 (f_X6_mayBeOurs_L6 (nI v) (nI e) (nI s) st n) (nI v) (nI e) (nI s) (nI i) st) (nI v) (nI e) (nI s) (nI i) (nI i) (nI v) st (bI b) = f_X6_mayBeOurs_L6 (nI v) (nI e) (nI s) st n (bI (lawB c v e s i)) (nI (i + 1)) := fun b hb => by
      rw [e_J49 b hLo hi hv, f_X6_mayBeOurs_J60, nI_1, hb]
    rw [f_X6_mayBeOurs_L6, g3, if_neg (nI_ge hi (by omega)), i0, if_bI, allB]
    by_cases ha : allB (lawB c v e s) i = true
    · rw [if_pos ha, ha, Bool.true_and, if_neg (in_row (a := 44 + 4 * i) (by omega) (by decide)), nI_clamp (n := 44 + 4 * i) (by omega), if_neg (nI_ne0 he (by omega)), s0, pk_rem (by omega) he (by omega)]
      by_cases q : gH c i % e = s
      · rw [if_pos (by rw [q])]
        exact hJ true (by unfold lawB; rw [decide_eq_true q])
      · rw [if_neg (fun z => q ((nI_eq (by omega) (by omega)).mp z))]
        exact hJ false (by unfold lawB; rw [decide_eq_false q])
    · have hf : allB (lawB c v e s) i = false := by cases q : allB (lawB c v e s) i with | true => exact absurd q ha | false => rfl
      rw [if_neg ha, hf, Bool.false_and, f_X6_mayBeOurs_J60, nI_1]
      rfl
  exact lp (fun n i => f_X6_mayBeOurs_L6 (nI v) (nI e) (nI s) st n (bI (allB (lawB c v e s) i)) (nI i)) g hend 0 hst (Nat.zero_le _) (by omega)
/-- how many laws till now, the first of them -/
def oS (b : Bool) (e s : Nat) (a : Nat × Nat × Nat) : Nat × Nat × Nat := if b = true then (a.1 + 1, if a.1 = 0 then e else a.2.1, if a.1 = 0 then s else a.2.2) else a
def oIn (f : Nat → Bool) (e : Nat) (a : Nat × Nat × Nat) : Nat → Nat × Nat × Nat
  | 0 => a
  | s + 1 => oS (f s) e s (oIn f e a s)
def oOut (F : Nat → Nat → Bool) : Nat → Nat × Nat × Nat
  | 0 => (0, 0, 0)
  | e + 1 => oIn (F (e + 1)) (e + 1) (oOut F e) (e + 1)
def oE (a : Nat × Nat × Nat) : Int32 := if a.1 = 0 then -9 else nI a.2.1
def oT (a : Nat × Nat × Nat) : Int32 := if a.1 = 0 then -9 else nI a.2.2
def oF (a : Nat × Nat × Nat) : Int32 := if a.1 = 0 then -9 else nI (12 * a.2.1 + a.2.2)
theorem oIn_b {f : Nat → Bool} {e : Nat} {a : Nat × Nat × Nat} : ∀ s, (oIn f e a s).1 ≤ a.1 + s := by
  intro s
  induction s with
  | zero => exact Nat.le_refl _
  | succ s ih =>
    rw [oIn, oS]
    by_cases q : f s = true
    · rw [if_pos q]; show (oIn f e a s).1 + 1 ≤ _; omega
    · rw [if_neg q]; omega
theorem oOut_b {F : Nat → Nat → Bool} : ∀ e, e ≤ 12 → (oOut F e).1 ≤ 12 * e := by
  intro e
  induction e with
  | zero => intro _; exact Nat.le_refl _
  | succ e ih =>
    intro he
    have h1 := ih (by omega)
    have h2 := oIn_b (f := F (e + 1)) (e := e + 1) (a := oOut F e) (e + 1)
    rw [oOut]
    omega
theorem oIn_2 {f : Nat → Bool} {e : Nat} {a : Nat × Nat × Nat} (ha : a.2.1 < 13 ∧ a.2.2 < 12) (he : e ≤ 12) : ∀ s, s ≤ 12 → (oIn f e a s).2.1 < 13 ∧ (oIn f e a s).2.2 < 12 := by
  intro s
  induction s with
  | zero => intro _; exact ha
  | succ s ih =>
    intro hs
    obtain ⟨h1, h2⟩ := ih (by omega)
    rw [oIn, oS]
    by_cases q : f s = true
    · rw [if_pos q]
      show (if (oIn f e a s).1 = 0 then e else (oIn f e a s).2.1) < 13 ∧ (if (oIn f e a s).1 = 0 then s else (oIn f e a s).2.2) < 12
      by_cases z : (oIn f e a s).1 = 0
      · rw [if_pos z, if_pos z]; exact ⟨by omega, by omega⟩
      · rw [if_neg z, if_neg z]; exact ⟨h1, h2⟩
    · rw [if_neg q]; exact ⟨h1, h2⟩
theorem oOut_2 {F : Nat → Nat → Bool} : ∀ e, e ≤ 12 → (oOut F e).2.1 < 13 ∧ (oOut F e).2.2 < 12 := by
  intro e
  induction e with
  | zero => intro _; exact ⟨show 0 < 13 by decide, show 0 < 12 by decide⟩
  | succ e ih => intro he; rw [oOut]; exact oIn_2 (ih (by omega)) he (e + 1) he
def ouB (c : Nat → Int32) (v g e s : Nat) : Bool := allB (lawB c v e s) g
theorem ours5in {K : Int32 → Int32 → Int32 → Option Int32} {c st : Nat → Int32} {x2 : Int32} {nD g v e : Nat} {a : Nat × Nat × Nat} (hLo : RLo (nI g) c st 0 nD g) (hv : v < 10) (he : 0 < e) (he2 : e ≤ 12) (ha : a.1 ≤ 144) : f_X5_ours_L41 K (nI v) x2 (nI e) (nI g) c FU (nI a.1) (oE a) (oT a) 0 = K (nI (oIn (ouB c v g e) e a e).1) (oE (oIn (ouB c v g e) e a e)) (oT (oIn (ouB c v g e) e a e)) := by
  have hend : ∀ n, f_X5_ours_L41 K (nI v) x2 (nI e) (nI g) c (n + 1) (nI (oIn (ouB c v g e) e a e).1) (oE (oIn (ouB c v g e) e a e)) (oT (oIn (ouB c v g e) e a e)) (nI e) = K (nI (oIn (ouB c v g e) e a e).1) (oE (oIn (ouB c v g e) e a e)) (oT (oIn (ouB c v g e) e a e)) := fun n => by
    rw [f_X5_ours_L41, if_pos (nI_le (Nat.le_refl _) (by omega))]
  have hst : ∀ n i, 0 ≤ i → i < e → f_X5_ours_L41 K (nI v) x2 (nI e) (nI g) c (n + 1) (nI (oIn (ouB c v g e) e a i).1) (oE (oIn (ouB c v g e) e a i)) (oT (oIn (ouB c v g e) e a i)) (nI i) = f_X5_ours_L41 K (nI v) x2 (nI e) (nI g) c n (nI (oIn (ouB c v g e) e a (i + 1)).1) (oE (oIn (ouB c v g e) e a (i + 1))) (oT (oIn (ouB c v g e) e a (i + 1))) (nI (i + 1)) := fun n i _ hi => by
    have hb := oIn_b (f := ouB c v g e) (e := e) (a := a) i
    rw [f_X5_ours_L41, if_neg (nI_ge hi (by omega)), e_fits hLo hv he he2 (by omega), Option.bind_some, if_bI, oIn]
    have hou : ouB c v g e i = allB (lawB c v e i) g := rfl
    rw [← hou]
    generalize hA : oIn (ouB c v g e) e a i = A at hb
    by_cases q : ouB c v g e i = true
    · rw [if_pos q]
      by_cases z : A.1 = 0
      · have eS : oS (ouB c v g e i) e i A = (A.1 + 1, e, i) := by unfold oS; rw [if_pos q, if_pos z, if_pos z]
        have eE : oE (A.1 + 1, e, i) = nI e := if_neg (Nat.succ_ne_zero _)
        have eT : oT (A.1 + 1, e, i) = nI i := if_neg (Nat.succ_ne_zero _)
        have zz : nI A.1 = 0 := by rw [z]; rfl
        rw [eS, eE, eT, if_pos zz, f_X5_ours_J74, if_pos zz, f_X5_ours_J87, f_X5_ours_J92, nI_1, nI_1]
      · have eS : oS (ouB c v g e i) e i A = (A.1 + 1, A.2.1, A.2.2) := by unfold oS; rw [if_pos q, if_neg z, if_neg z]
        have eE : oE (A.1 + 1, A.2.1, A.2.2) = oE A := (if_neg (Nat.succ_ne_zero _)).trans (if_neg z).symm
        have eT : oT (A.1 + 1, A.2.1, A.2.2) = oT A := (if_neg (Nat.succ_ne_zero _)).trans (if_neg z).symm
        have zz : ¬ nI A.1 = 0 := nI_ne0 (Nat.pos_of_ne_zero z) (by omega)
        rw [eS, eE, eT, if_neg zz, f_X5_ours_J74, if_neg zz, f_X5_ours_J87, f_X5_ours_J92, nI_1, nI_1]
    · have e1 : oS (ouB c v g e i) e i A = A := by unfold oS; rw [if_neg q]
      rw [if_neg q, f_X5_ours_J92, nI_1, e1]
  exact lp (fun n i => f_X5_ours_L41 K (nI v) x2 (nI e) (nI g) c n (nI (oIn (ouB c v g e) e a i).1) (oE (oIn (ouB c v g e) e a i)) (oT (oIn (ouB c v g e) e a i)) (nI i)) e hend 0 hst (Nat.zero_le _) (by omega)
theorem ours6in {K : Int32 → Int32 → Option Int32} {c st : Nat → Int32} {x2 : Int32} {nD g v e : Nat} {a : Nat × Nat × Nat} (hLo : RLo (nI g) c st 0 nD g) (hv : v < 10) (he : 0 < e) (he2 : e ≤ 12) (ha : a.1 ≤ 144) : f_X6_ours_L37 K (nI v) x2 (nI e) st FU (nI a.1) (oF a) 0 = K (nI (oIn (ouB c v g e) e a e).1) (oF (oIn (ouB c v g e) e a e)) := by
  have hend : ∀ n, f_X6_ours_L37 K (nI v) x2 (nI e) st (n + 1) (nI (oIn (ouB c v g e) e a e).1) (oF (oIn (ouB c v g e) e a e)) (nI e) = K (nI (oIn (ouB c v g e) e a e).1) (oF (oIn (ouB c v g e) e a e)) := fun n => by
    rw [f_X6_ours_L37, if_pos (nI_le (Nat.le_refl _) (by omega))]
  have hst : ∀ n i, 0 ≤ i → i < e → f_X6_ours_L37 K (nI v) x2 (nI e) st (n + 1) (nI (oIn (ouB c v g e) e a i).1) (oF (oIn (ouB c v g e) e a i)) (nI i) = f_X6_ours_L37 K (nI v) x2 (nI e) st n (nI (oIn (ouB c v g e) e a (i + 1)).1) (oF (oIn (ouB c v g e) e a (i + 1))) (nI (i + 1)) := fun n i _ hi => by
    have hb := oIn_b (f := ouB c v g e) (e := e) (a := a) i
    rw [f_X6_ours_L37, if_neg (nI_ge hi (by omega)), e_mayOurs hLo hv he he2 (by omega), Option.bind_some, oIn]
    have hou : ouB c v g e i = allB (lawB c v e i) g := rfl
    rw [← hou]
    generalize hA : oIn (ouB c v g e) e a i = A at hb
    cases q : ouB c v g e i with
    | true =>
      rw [bI_t, if_neg n10]
      by_cases z : A.1 = 0
      · have eS : oS true e i A = (A.1 + 1, e, i) := by unfold oS; rw [if_pos rfl, if_pos z, if_pos z]
        have eF : oF (A.1 + 1, e, i) = nI (12 * e + i) := if_neg (Nat.succ_ne_zero _)
        have zz : nI A.1 = 0 := by rw [z]; rfl
        have ie : (12 : Int32) * nI e + nI i = nI (12 * e + i) := by rw [show (12 : Int32) = nI 12 from rfl, pk_mul, nI_add]
        rw [eS, eF, if_pos zz, f_X6_ours_J77, if_neg n10, f_X6_ours_J90, ie, nI_1, nI_1]
      · have eS : oS true e i A = (A.1 + 1, A.2.1, A.2.2) := by unfold oS; rw [if_pos rfl, if_neg z, if_neg z]
        have eF : oF (A.1 + 1, A.2.1, A.2.2) = oF A := (if_neg (Nat.succ_ne_zero _)).trans (if_neg z).symm
        have zz : ¬ nI A.1 = 0 := nI_ne0 (Nat.pos_of_ne_zero z) (by omega)
        rw [eS, eF, if_neg zz, f_X6_ours_J75, if_neg n10, f_X6_ours_J90, nI_1, nI_1]
    | false =>
      have e1 : oS false e i A = A := rfl
      rw [bI_f, if_pos e00, f_X6_ours_J75, if_pos e00, f_X6_ours_J90, nI_1, e1, show nI A.1 + 0 = nI (A.1 + 0) from nI_add _ 0, Nat.add_zero]
  exact lp (fun n i => f_X6_ours_L37 K (nI v) x2 (nI e) st n (nI (oIn (ouB c v g e) e a i).1) (oF (oIn (ouB c v g e) e a i)) (nI i)) e hend 0 hst (Nat.zero_le _) (by omega)
theorem ours5 {K : Int32 → Int32 → Int32 → Option Int32} {c st : Nat → Int32} {x2 : Int32} {nD g v : Nat} (hLo : RLo (nI g) c st 0 nD g) (hv : v < 10) : f_X5_ours_L31 K (nI v) x2 (nI g) c FU 0 (-9) (-9) 1 = K (nI (oOut (ouB c v g) 12).1) (oE (oOut (ouB c v g) 12)) (oT (oOut (ouB c v g) 12)) := by
  have hend : ∀ n, f_X5_ours_L31 K (nI v) x2 (nI g) c (n + 1) (nI (oOut (ouB c v g) 12).1) (oE (oOut (ouB c v g) 12)) (oT (oOut (ouB c v g) 12)) (nI 13) = K (nI (oOut (ouB c v g) 12).1) (oE (oOut (ouB c v g) 12)) (oT (oOut (ouB c v g) 12)) := fun n => by
    rw [f_X5_ours_L31, if_pos (by decide)]
  have hst : ∀ n i, 1 ≤ i → i < 13 → f_X5_ours_L31 K (nI v) x2 (nI g) c (n + 1) (nI (oOut (ouB c v g) (i - 1)).1) (oE (oOut (ouB c v g) (i - 1))) (oT (oOut (ouB c v g) (i - 1))) (nI i) = f_X5_ours_L31 K (nI v) x2 (nI g) c n (nI (oOut (ouB c v g) (i + 1 - 1)).1) (oE (oOut (ouB c v g) (i + 1 - 1))) (oT (oOut (ouB c v g) (i + 1 - 1))) (nI (i + 1)) := fun n i h1 hi => by
    have hb := oOut_b (F := ouB c v g) (i - 1) (by omega)
    have es : oOut (ouB c v g) (i + 1 - 1) = oIn (ouB c v g i) i (oOut (ouB c v g) (i - 1)) i := by
      obtain ⟨k, rfl⟩ : ∃ z, i = z + 1 := ⟨i - 1, by omega⟩
      rfl
    rw [f_X5_ours_L31, if_neg (show ¬ (12 : Int32) < nI i from nI_nlt (a := 12) (by omega) (by decide)), ours5in hLo hv h1 (by omega) (by omega), f_X5_ours_X98, nI_1, es]
  exact lp (fun n i => f_X5_ours_L31 K (nI v) x2 (nI g) c n (nI (oOut (ouB c v g) (i - 1)).1) (oE (oOut (ouB c v g) (i - 1))) (oT (oOut (ouB c v g) (i - 1))) (nI i)) 13 hend 1 hst (by decide) (by decide)
theorem ours6 {K : Int32 → Int32 → Option Int32} {c st : Nat → Int32} {x2 : Int32} {nD g v : Nat} (hLo : RLo (nI g) c st 0 nD g) (hv : v < 10) : f_X6_ours_L27 K (nI v) x2 st FU 0 (-9) 1 = K (nI (oOut (ouB c v g) 12).1) (oF (oOut (ouB c v g) 12)) := by
  have hend : ∀ n, f_X6_ours_L27 K (nI v) x2 st (n + 1) (nI (oOut (ouB c v g) 12).1) (oF (oOut (ouB c v g) 12)) (nI 13) = K (nI (oOut (ouB c v g) 12).1) (oF (oOut (ouB c v g) 12)) := fun n => by
    rw [f_X6_ours_L27, if_pos (by decide)]
  have hst : ∀ n i, 1 ≤ i → i < 13 → f_X6_ours_L27 K (nI v) x2 st (n + 1) (nI (oOut (ouB c v g) (i - 1)).1) (oF (oOut (ouB c v g) (i - 1))) (nI i) = f_X6_ours_L27 K (nI v) x2 st n (nI (oOut (ouB c v g) (i + 1 - 1)).1) (oF (oOut (ouB c v g) (i + 1 - 1))) (nI (i + 1)) := fun n i h1 hi => by
    have hb := oOut_b (F := ouB c v g) (i - 1) (by omega)
    have es : oOut (ouB c v g) (i + 1 - 1) = oIn (ouB c v g i) i (oOut (ouB c v g) (i - 1)) i := by
      obtain ⟨k, rfl⟩ : ∃ z, i = z + 1 := ⟨i - 1, by omega⟩
      rfl
    rw [f_X6_ours_L27, if_neg (show ¬ (12 : Int32) < nI i from nI_nlt (a := 12) (by omega) (by decide)), ours6in hLo hv h1 (by omega) (by omega), f_X6_ours_X98, nI_1, es]
  exact lp (fun n i => f_X6_ours_L27 K (nI v) x2 st n (nI (oOut (ouB c v g) (i - 1)).1) (oF (oOut (ouB c v g) (i - 1))) (nI i)) 13 hend 1 hst (by decide) (by decide)
theorem op_ours (sc : Nat → Int32) (ar : Nat → Nat → Int32) (lg : Nat → Int64) (hR : Rel sc ar lg) (y1 : Int32) (y2 : Int32) :
    ∃ (q : Int32) (q' : Int32), f_X5_ours (sc 28) (ar 13) y1 y2 = some q ∧ f_X6_ours (ar 34) y1 y2 = some q' ∧ q = q' ∧ Rel sc ar lg := by
  obtain ⟨hM, hT, hTx, nD, nA, nS, nN, hD5, hDi, hAs, hSp, hNo, ⟨hMt, nL, nG, nU, hLe, hLo, hUn⟩, hIm⟩ := id hR
  have hLo0 : RLo (nI nG) (ar 13) (ar 34) 0 nD nG := ⟨rfl, hLo.2⟩
  unfold f_X5_ours f_X6_ours
  rw [hLo.1, t5_note, t6_note, t6_in2]
  rcases tst_or (n := 10) (by decide) y1 with h | ⟨h, v, hv, rfl⟩
  · rw [if_pos h, if_pos h]
    exact ⟨_, _, rfl, rfl, rfl, hR⟩
  rw [if_neg (tst_ne hv (by decide)), if_neg (tst_ne hv (by decide))]
  by_cases n2 : y2 < 0
  · have t : tst 3 y2 = 0 := by unfold tst; rw [if_pos n2]
    rw [if_pos n2, if_pos t]
    exact ⟨_, _, rfl, rfl, rfl, hR⟩
  rw [if_neg n2]
  rcases tst_or (n := 3) (by decide) y2 with t | ⟨t, w, hw, rfl⟩
  · have n3 : ¬ y2 ≤ 2 := fun q => by
      unfold tst at t
      rw [if_neg n2] at t
      by_cases c4 : nI 3 ≤ y2
      · rw [Int32.le_iff_toInt_le] at q c4
        have a1 : (nI 3).toInt = 3 := by decide
        have a2 : (2 : Int32).toInt = 2 := by decide
        omega
      · rw [if_neg c4] at t
        exact n10 t
    rw [if_neg n3, if_pos t]
    exact ⟨_, _, rfl, rfl, rfl, hR⟩
  have n3 : nI w ≤ 2 := nI_le (b := 2) (by omega) (by decide)
  rw [if_pos n3, if_neg (tst_ne hw (by decide)), ours5 hLo0 hv, ours6 (c := ar 13) hLo0 hv]
  have hb := oOut_b (F := ouB (ar 13) v nG) 12 (by decide)
  obtain ⟨h1, h2⟩ := oOut_2 (F := ouB (ar 13) v nG) 12 (by decide)
  generalize oOut (ouB (ar 13) v nG) 12 = A at hb h1 h2
  rw [f_X5_ours_X104, f_X6_ours_X104]
  unfold oE oT oF
  by_cases z : A.1 = 0
  · have zz : nI A.1 = 0 := by rw [z]; rfl
    rw [if_pos z, if_pos z, if_pos z, if_pos zz]
    rcases (show w = 0 ∨ w = 1 ∨ w = 2 by omega) with rfl | rfl | rfl
    · rw [if_pos (by decide), if_pos (by decide)]
      exact ⟨_, _, rfl, rfl, rfl, hR⟩
    · rw [if_neg (by decide), if_pos (by decide), if_neg (by decide)]
      exact ⟨_, _, rfl, rfl, rfl, hR⟩
    · rw [if_neg (by decide), if_neg (by decide), if_neg (by decide)]
      exact ⟨_, _, rfl, rfl, rfl, hR⟩
  · have zz : ¬ nI A.1 = 0 := nI_ne0 (Nat.pos_of_ne_zero z) (by omega)
    have d1 : nI (12 * A.2.1 + A.2.2) / 12 = nI A.2.1 := by
      rw [show (12 : Int32) = nI 12 from rfl, pk_div (by omega) (by decide) (by decide)]
      exact congrArg nI (by omega)
    have d2 : nI (12 * A.2.1 + A.2.2) - nI A.2.1 * 12 = nI A.2.2 := by
      rw [show (12 : Int32) = nI 12 from rfl, pk_mul, pk_sub (by omega)]
      exact congrArg nI (by omega)
    rw [if_neg z, if_neg z, if_neg z, if_neg zz, d1, d2]
    rcases (show w = 0 ∨ w = 1 ∨ w = 2 by omega) with rfl | rfl | rfl
    · rw [if_pos (by decide)]
      exact ⟨_, _, rfl, rfl, rfl, hR⟩
    · rw [if_neg (by decide), if_pos (by decide)]
      exact ⟨_, _, rfl, rfl, rfl, hR⟩
    · rw [if_neg (by decide), if_neg (by decide)]
      exact ⟨_, _, rfl, rfl, rfl, hR⟩
