/-! marks: how many rows have a note -/
theorem cw5 {c : Nat → Int32} {v : Int32} {m w : Nat} (hm : m ≤ 12) (hw : w < 4) : ∀ j i, i + j = m → ∀ n, j < n → f_X2_countWith_L5 (nI w) v (nI m) c n (nI (cnt (fun i => decide (c (4 * i + w) = v)) i)) (nI i) = some (nI (cnt (fun i => decide (c (4 * i + w) = v)) m)) := by
  intro j
  induction j with
  | zero =>
    intro i hi n hn
    obtain ⟨n, rfl⟩ : ∃ z, n = z + 1 := ⟨n - 1, by omega⟩
    obtain rfl : i = m := by omega
    rw [f_X2_countWith_L5, if_pos (nI_le (Nat.le_refl _) (by omega))]
  | succ j ih =>
    intro i hi n hn
    obtain ⟨n, rfl⟩ : ∃ z, n = z + 1 := ⟨n - 1, by omega⟩
    rw [f_X2_countWith_L5, if_neg (nI_ge (by omega) (by omega)), e_num (by omega) hm hw]
    have h := ih (i + 1) (by omega) n (by omega)
    rw [cnt] at h
    by_cases hc : c (4 * i + w) = v
    · rw [if_pos (by simp [hc])] at h
      rw [if_pos hc, f_X2_countWith_J28, nI_1, nI_1]
      exact h
    · rw [if_neg (by simp [hc]), Nat.add_zero] at h
      rw [if_neg hc, f_X2_countWith_J28, nI_1]
      exact h
theorem cnt_congr {P Q : Nat → Bool} : ∀ n, (∀ i, i < n → P i = Q i) → cnt P n = cnt Q n := by
  intro n
  induction n with
  | zero => intro _; rfl
  | succ n ih => intro h; rw [cnt, cnt, ih (fun i hi => h i (by omega)), h n (by omega)]
theorem vm6 {sp : Nat → Int32} {v : Int32} {tr : Int64} {m : Nat} {K : Int32 → Option (Int32 × Int64)} (hm : m ≤ 5) : ∀ j i, i + j = m → ∀ n, j < n → f_X6_voiceMark_L16 K v (nI m) tr sp n (nI (cnt (fun i => decide (sp (4 * i + 1) = v)) i)) (nI i) = K (nI (cnt (fun i => decide (sp (4 * i + 1) = v)) m)) := by
  intro j
  induction j with
  | zero =>
    intro i hi n hn
    obtain ⟨n, rfl⟩ : ∃ z, n = z + 1 := ⟨n - 1, by omega⟩
    obtain rfl : i = m := by omega
    rw [f_X6_voiceMark_L16, if_pos (nI_le (Nat.le_refl _) (by omega))]
  | succ j ih =>
    intro i hi n hn
    obtain ⟨n, rfl⟩ : ∃ z, n = z + 1 := ⟨n - 1, by omega⟩
    have i0 : (4 : Int32) * nI i + 1 = nI (4 * i + 1) := by rw [show (4 : Int32) = nI 4 from rfl, pk_mul, nI_1]
    rw [f_X6_voiceMark_L16, if_neg (nI_ge (by omega) (by omega)), i0, if_neg (in_row (by omega) (by decide)), nI_clamp (n := 4 * i + 1) (by omega)]
    have h := ih (i + 1) (by omega) n (by omega)
    rw [cnt] at h
    by_cases hc : sp (4 * i + 1) = v
    · rw [if_pos (by simp [hc])] at h
      rw [if_pos hc, f_X6_voiceMark_J44, nI_1, nI_1]
      exact h
    · rw [if_neg (by simp [hc])] at h
      rw [if_neg hc, f_X6_voiceMark_J44, nI_1, show nI (cnt (fun i => decide (sp (4 * i + 1) = v)) i) + 0 = nI (cnt (fun i => decide (sp (4 * i + 1) = v)) i + 0) from nI_add _ 0]
      exact h
theorem hm6 {no : Nat → Int32} {v : Int32} {tr : Int64} {m : Nat} {K : Int32 → Option (Int32 × Int64)} (hm : m ≤ 3) : ∀ j i, i + j = m → ∀ n, j < n → f_X6_humMark_L16 K v (nI m) tr no n (nI (cnt (fun i => decide (no (3 * i) = v)) i)) (nI i) = K (nI (cnt (fun i => decide (no (3 * i) = v)) m)) := by
  intro j
  induction j with
  | zero =>
    intro i hi n hn
    obtain ⟨n, rfl⟩ : ∃ z, n = z + 1 := ⟨n - 1, by omega⟩
    obtain rfl : i = m := by omega
    rw [f_X6_humMark_L16, if_pos (nI_le (Nat.le_refl _) (by omega))]
  | succ j ih =>
    intro i hi n hn
    obtain ⟨n, rfl⟩ : ∃ z, n = z + 1 := ⟨n - 1, by omega⟩
    have i0 : (3 : Int32) * nI i = nI (3 * i) := pk_mul 3 i
    rw [f_X6_humMark_L16, if_neg (nI_ge (by omega) (by omega)), i0, if_neg (in_row (by omega) (by decide)), nI_clamp (n := 3 * i) (by omega)]
    have h := ih (i + 1) (by omega) n (by omega)
    rw [cnt] at h
    by_cases hc : no (3 * i) = v
    · rw [if_pos (by simp [hc])] at h
      rw [if_pos hc, f_X6_humMark_J42, nI_1, nI_1]
      exact h
    · rw [if_neg (by simp [hc])] at h
      rw [if_neg hc, f_X6_humMark_J42, nI_1, show nI (cnt (fun i => decide (no (3 * i) = v)) i) + 0 = nI (cnt (fun i => decide (no (3 * i) = v)) i + 0) from nI_add _ 0]
      exact h
def hrd (c : Nat → Int32) (v : Int32) (i : Nat) : Bool := decide (c (4 * i + 2) = v) && decide (c (4 * i + 3) = 1)
theorem th5 {c : Nat → Int32} {v : Int32} {g : Nat} (hg : g ≤ 10) : ∀ j i, i + j = g → ∀ n, j < n → f_X0_timesHeard_L4 v (nI g) c n (nI (cnt (hrd c v) i)) (nI i) = some (nI (cnt (hrd c v) g)) := by
  intro j
  induction j with
  | zero =>
    intro i hi n hn
    obtain ⟨n, rfl⟩ : ∃ z, n = z + 1 := ⟨n - 1, by omega⟩
    obtain rfl : i = g := by omega
    rw [f_X0_timesHeard_L4, if_pos (nI_le (Nat.le_refl _) (by omega))]
  | succ j ih =>
    intro i hi n hn
    obtain ⟨n, rfl⟩ : ∃ z, n = z + 1 := ⟨n - 1, by omega⟩
    have h := ih (i + 1) (by omega) n (by omega)
    rw [cnt] at h
    rw [f_X0_timesHeard_L4, if_neg (nI_ge (by omega) (by omega)), f_X0_isLogged, e_num2 (by omega) (by omega), e_num3 (by omega) (by omega)]
    by_cases h2 : c (4 * i + 2) = v
    · by_cases h3 : c (4 * i + 3) = 1
      · rw [if_pos (by simp [hrd, h2, h3])] at h
        rw [if_pos h2, if_pos h3, if_neg n10, f_X0_timesHeard_J28, nI_1, nI_1]
        exact h
      · rw [if_neg (by simp [hrd, h3]), Nat.add_zero] at h
        rw [if_pos h2, if_neg h3, if_pos e00, f_X0_timesHeard_J28, nI_1]
        exact h
    · rw [if_neg (by simp [hrd, h2]), Nat.add_zero] at h
      rw [if_neg h2, if_pos e00, f_X0_timesHeard_J28, nI_1]
      exact h
theorem km6 {c st no : Nat → Int32} {v nn : Int32} {tr : Int64} {nD g : Nat} {K : Int32 → Option (Int32 × Int64)} (hLo : RLo (nI g) c st 0 nD g) : ∀ j i, i + j = g → ∀ n, j < n → f_X6_kettleMark_L16 K v nn tr no st n (nI (cnt (hrd c v) i)) (nI i) = K (nI (cnt (hrd c v) g)) := by
  have hg := hLo.2.1
  have g3 : st (Int32.toNatClampNeg 1) = nI g := hLo.2.2.1
  intro j
  induction j with
  | zero =>
    intro i hi n hn
    obtain ⟨n, rfl⟩ : ∃ z, n = z + 1 := ⟨n - 1, by omega⟩
    obtain rfl : i = g := by omega
    rw [f_X6_kettleMark_L16, g3, if_pos (nI_le (Nat.le_refl _) (by omega))]
  | succ j ih =>
    intro i hi n hn
    obtain ⟨n, rfl⟩ : ∃ z, n = z + 1 := ⟨n - 1, by omega⟩
    obtain ⟨-, -, ⟨c2, -⟩, ⟨c3, w, hw, s3⟩⟩ := hLo.2.2.2 i (by omega)
    rw [Nat.zero_add] at c2 c3 s3
    have i0 : (44 : Int32) + 4 * nI i = nI (44 + 4 * i) := by rw [show (44 : Int32) = nI 44 from rfl, show (4 : Int32) = nI 4 from rfl, pk_mul, nI_add]
    have i2 : nI (44 + 4 * i) + 2 = nI (44 + 4 * i + 2) := nI_add _ 2
    have i3 : nI (44 + 4 * i) + 3 = nI (44 + 4 * i + 3) := nI_add _ 3
    have h := ih (i + 1) (by omega) n (by omega)
    rw [cnt] at h
    rw [f_X6_kettleMark_L16, g3, if_neg (nI_ge (by omega) (by omega)), i0, i2, i3, if_neg (in_row (a := 44 + 4 * i + 2) (n := 104) (by omega) (by decide)), nI_clamp (n := 44 + 4 * i + 2) (by omega), ← c2]
    by_cases h2 : c (4 * i + 2) = v
    · rw [if_pos h2, if_neg (in_row (a := 44 + 4 * i + 3) (n := 104) (by omega) (by decide)), nI_clamp (n := 44 + 4 * i + 3) (by omega), s3, f_X6_kettleMark_J61, nI_add, nI_1]
      have hc3 : c (4 * i + 3) = nI w := c3.trans s3
      rcases (show w = 0 ∨ w = 1 by omega) with rfl | rfl
      · have z : hrd c v i = false := by unfold hrd; rw [hc3, decide_eq_false (show ¬ nI 0 = 1 by decide), Bool.and_false]
        rw [z, if_neg (by decide)] at h
        exact h
      · rw [if_pos (by simp [hrd, h2, hc3]; decide)] at h
        exact h
    · rw [if_neg (by simp [hrd, h2])] at h
      rw [if_neg h2, f_X6_kettleMark_J61, nI_1, show nI (cnt (hrd c v) i) + 0 = nI (cnt (hrd c v) i + 0) from nI_add _ 0]
      exact h
theorem e_voice5 {sp c : Nat → Int32} {v n6 : Int32} {tr : Int64} {nS : Nat} (h : RSp (nI nS) c n6 sp nS) : f_X5_markAsVoice tr (nI nS) c v = some (v + nI (cnt (fun i => decide (sp (4 * i + 1) = v)) nS), tr + 10 + 1) := by
  unfold f_X5_markAsVoice f_X2_countWith
  have h5 := h.1
  have e : f_X2_countWith_L5 1 v (nI nS) c FU 0 0 = some (nI (cnt (fun i => decide (c (4 * i + 1) = v)) nS)) := cw5 (w := 1) (by omega) (by decide) nS 0 (Nat.zero_add _) FU (show nS < 1000 by omega)
  rw [e, Option.bind_some, f_X5_markAsNote, cnt_congr (P := fun i => decide (c (4 * i + 1) = v)) (Q := fun i => decide (sp (4 * i + 1) = v)) nS (fun i hi => by rw [(h.2.2.2 i hi).2.1.1])]
theorem e_voice6 {sp c : Nat → Int32} {v n6 : Int32} {tr : Int64} {nS : Nat} (h : RSp (nI nS) c n6 sp nS) : f_X6_voiceMark (nI nS) tr sp v = some (v + nI (cnt (fun i => decide (sp (4 * i + 1) = v)) nS), tr + 10 + 1) := by
  unfold f_X6_voiceMark
  have h5 := h.1
  have e : f_X6_voiceMark_L16 (f_X6_voiceMark_X52 v (tr + 10)) v (nI nS) (tr + 10) sp FU 0 0 = f_X6_voiceMark_X52 v (tr + 10) (nI (cnt (fun i => decide (sp (4 * i + 1) = v)) nS)) := vm6 h5 nS 0 (Nat.zero_add _) FU (show nS < 1000 by omega)
  rw [e, f_X6_voiceMark_X52, f_X6_noteMark]
theorem e_hum5 {no c : Nat → Int32} {v n6 : Int32} {tr : Int64} {nN : Nat} (h : RNo (nI nN) c n6 no nN) : f_X5_markAsHum tr (nI nN) c v = some (v - nI (cnt (fun i => decide (no (3 * i) = v)) nN), tr + 100 + 1) := by
  unfold f_X5_markAsHum f_X2_countWith
  have h5 := h.1
  have e : f_X2_countWith_L5 0 v (nI nN) c FU 0 0 = some (nI (cnt (fun i => decide (c (4 * i + 0) = v)) nN)) := cw5 (w := 0) (by omega) (by decide) nN 0 (Nat.zero_add _) FU (show nN < 1000 by omega)
  rw [e, Option.bind_some, f_X5_markAsNote, cnt_congr (P := fun i => decide (c (4 * i + 0) = v)) (Q := fun i => decide (no (3 * i) = v)) nN (fun i hi => by rw [Nat.add_zero, (h.2.2.2 i hi).1.1])]
theorem e_hum6 {no c : Nat → Int32} {v n6 : Int32} {tr : Int64} {nN : Nat} (h : RNo (nI nN) c n6 no nN) : f_X6_humMark (nI nN) tr no v = some (v - nI (cnt (fun i => decide (no (3 * i) = v)) nN), tr + 100 + 1) := by
  unfold f_X6_humMark
  have h5 := h.1
  have e : f_X6_humMark_L16 (f_X6_humMark_X50 v (tr + 100)) v (nI nN) (tr + 100) no FU 0 0 = f_X6_humMark_X50 v (tr + 100) (nI (cnt (fun i => decide (no (3 * i) = v)) nN)) := hm6 h5 nN 0 (Nat.zero_add _) FU (show nN < 1000 by omega)
  rw [e, f_X6_humMark_X50, f_X6_noteMark]
theorem e_times5 {c : Nat → Int32} {v : Int32} {g : Nat} (hg : g ≤ 10) : f_X0_timesHeard (nI g) c v = some (nI (cnt (hrd c v) g)) := th5 (c := c) (v := v) hg g 0 (Nat.zero_add _) FU (show g < 1000 by omega)
theorem e_kettle6 {no nc c st : Nat → Int32} {v n6 : Int32} {tr : Int64} {nD nN g : Nat} (h : RNo (nI nN) nc n6 no nN) (hLo : RLo (nI g) c st 0 nD g) : f_X6_kettleMark (nI nN) tr no st v = some (v - nI (cnt (fun i => decide (no (3 * i) = v)) nN) + nI (cnt (hrd c v) g), tr + 10000 + 100 + 1) := by
  unfold f_X6_kettleMark
  have hg := hLo.2.1
  have e : f_X6_kettleMark_L16 (f_X6_kettleMark_X69 v (nI nN) (tr + 10000) no) v (nI nN) (tr + 10000) no st FU 0 0 = f_X6_kettleMark_X69 v (nI nN) (tr + 10000) no (nI (cnt (hrd c v) g)) := km6 hLo g 0 (Nat.zero_add _) FU (show g < 1000 by omega)
  rw [e, f_X6_kettleMark_X69, e_hum6 h, Option.bind_some]
theorem op_mark (sc : Nat → Int32) (ar : Nat → Nat → Int32) (lg : Nat → Int64) (hR : Rel sc ar lg) (y1 : Int32) (y2 : Int32) :
    ∃ (q : Int32 × Int64) (q' : Int32 × Int64), f_X5_mark (lg 0) (sc 28) (ar 13) (sc 30) (sc 43) (ar 22) (sc 45) (ar 23) y1 y2 = some q ∧ f_X6_mark (sc 46) (sc 47) (sc 48) (lg 1) (ar 27) (ar 33) (ar 34) y1 y2 = some q' ∧ q.1 = q'.1 ∧ Rel sc ar (uv (uv lg 0 q.2) 1 q'.2) := by
  obtain ⟨hM, hT, hTx, nD, nA, nS, nN, hD5, hDi, hAs, hSp, hNo, hNw, hIm⟩ := id hR
  obtain ⟨hMt, nL, nG, nU, hLe, hLo, hUn⟩ := id hNw
  have both : ∀ (a : Int32) (t : Int64), ∃ (q : Int32 × Int64) (q' : Int32 × Int64), some (a, t) = some q ∧ some (a, t) = some q' ∧ q.1 = q'.1 ∧ Rel sc ar (uv (uv lg 0 q.2) 1 q'.2) := fun a t =>
    ⟨_, _, rfl, rfl, rfl, hM, rfl, hTx, nD, nA, nS, nN, hD5, hDi, hAs, hSp, hNo, hNw, hIm⟩
  have hSp0 : RSp (nI nS) (ar 23) (sc 47) (ar 33) nS := ⟨hSp.1, rfl, hSp.2.2⟩
  have hNo0 : RNo (nI nN) (ar 22) (sc 48) (ar 27) nN := ⟨hNo.1, rfl, hNo.2.2⟩
  have hLo0 : RLo (nI nG) (ar 13) (ar 34) 0 nD nG := ⟨rfl, hLo.2⟩
  have t6 : f_X6_in y1 0 5 = tst 6 y1 := in_pred (n := 6) (by decide) y1
  unfold f_X5_mark f_X6_mark
  rw [hT, hDi, hMt.1, hSp.2.1, hSp.2.2.1, hNo.2.1, hNo.2.2.1, hLo.1, t5_note, t6_note, t6]
  rcases tst_or (n := 10) (by decide) y2 with h | ⟨h, v, hv, rfl⟩
  · rw [if_pos h, if_pos h]
    by_cases h6 : tst 6 y1 = 0
    · rw [if_pos h6]
      exact both _ _
    · rw [if_neg h6]
      exact both _ _
  rw [if_neg (tst_ne hv (by decide)), if_neg (tst_ne hv (by decide))]
  rcases tst_or (n := 6) (by decide) y1 with h6 | ⟨h6, k, hk, rfl⟩
  · have ne : ∀ k : Nat, k < 6 → ¬ y1 = nI k := fun k hk q => by rw [q, tst_1 hk (by decide)] at h6; exact n10 h6
    rw [if_pos h6, if_neg (show ¬ y1 = 0 from ne 0 (by decide)), if_neg (show ¬ y1 = 1 from ne 1 (by decide)), if_neg (show ¬ y1 = 2 from ne 2 (by decide)), if_neg (show ¬ y1 = 3 from ne 3 (by decide)), if_neg (show ¬ y1 = 4 from ne 4 (by decide)), if_neg (show ¬ y1 = 5 from ne 5 (by decide))]
    exact both _ _
  rw [if_neg (tst_ne hk (by decide))]
  rcases (show k = 0 ∨ k = 1 ∨ k = 2 ∨ k = 3 ∨ k = 4 ∨ k = 5 by omega) with rfl | rfl | rfl | rfl | rfl | rfl
  · exact both _ _
  · show ∃ (q : Int32 × Int64) (q' : Int32 × Int64), ((f_X5_markAsVoice (lg 1) (nI nS) (ar 23) (nI v)).bind fun q56 => some (q56.1, q56.2)) = some q ∧ ((f_X6_voiceMark (nI nS) (lg 1) (ar 33) (nI v)).bind fun q64 => some (q64.1, q64.2)) = some q' ∧ q.1 = q'.1 ∧ Rel sc ar (uv (uv lg 0 q.2) 1 q'.2)
    rw [e_voice5 hSp0, e_voice6 hSp0]
    exact both _ _
  · show ∃ (q : Int32 × Int64) (q' : Int32 × Int64), ((f_X5_markAsHum (lg 1) (nI nN) (ar 22) (nI v)).bind fun q56 => some (q56.1, q56.2)) = some q ∧ ((f_X6_humMark (nI nN) (lg 1) (ar 27) (nI v)).bind fun q64 => some (q64.1, q64.2)) = some q' ∧ q.1 = q'.1 ∧ Rel sc ar (uv (uv lg 0 q.2) 1 q'.2)
    rw [e_hum5 hNo0, e_hum6 hNo0]
    exact both _ _
  · show ∃ (q : Int32 × Int64) (q' : Int32 × Int64), ((f_X5_markAsCall (lg 1) (nI nS) (ar 23) (nI v)).bind fun q56 => some (q56.1, q56.2)) = some q ∧ ((f_X6_voiceMark (nI nS) (lg 1 + 1000) (ar 33) (nI v)).bind fun q64 => some (2 * q64.1, q64.2)) = some q' ∧ q.1 = q'.1 ∧ Rel sc ar (uv (uv lg 0 q.2) 1 q'.2)
    rw [f_X5_markAsCall, e_voice5 hSp0, e_voice6 hSp0, Option.bind_some, Option.bind_some, Option.bind_some, Int32.mul_comm 2]
    exact both _ _
  · show ∃ (q : Int32 × Int64) (q' : Int32 × Int64), ((f_X5_markAsKettle (lg 1) (nI nG) (ar 13) (nI nN) (ar 22) (nI v)).bind fun q56 => some (q56.1, q56.2)) = some q ∧ ((f_X6_kettleMark (nI nN) (lg 1) (ar 27) (ar 34) (nI v)).bind fun q64 => some (q64.1, q64.2)) = some q' ∧ q.1 = q'.1 ∧ Rel sc ar (uv (uv lg 0 q.2) 1 q'.2)
    rw [f_X5_markAsKettle, e_hum5 hNo0, e_times5 hLo.2.1, e_kettle6 hNo0 hLo0]
    exact both _ _
  · exact both _ _
