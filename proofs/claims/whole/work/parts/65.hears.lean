/-! hears -/
def spkB (sp : Nat → Int32) (pl h : Int32) (i : Nat) : Int32 := if sp (4 * i) = pl then (if h < sp (4 * i + 2) then 0 else if sp (4 * i + 3) < h then 0 else 1 <<< (sp (4 * i + 1) &&& 31)) else 0
def orU (f : Nat → Int32) : Nat → Int32
  | 0 => 0
  | n + 1 => orU f n ||| f n
def noiB (no : Nat → Int32) (h : Int32) (i : Nat) : Int32 := if h - h / no (3 * i + 1) * no (3 * i + 1) = no (3 * i + 2) then 1 <<< (no (3 * i) &&& 31) else 0
theorem sp5 {c sp : Nat → Int32} {n6 pl h : Int32} {m : Nat} (hS : RSp (nI m) c n6 sp m) : ∀ j i, i + j = m → ∀ n, j < n → f_X4_notesSpoken_L5 pl h (nI m) c n (orU (spkB sp pl h) i) (nI i) = some (orU (spkB sp pl h) m) := by
  have h5 := hS.1
  intro j
  induction j with
  | zero =>
    intro i hi n hn
    obtain ⟨n, rfl⟩ : ∃ z, n = z + 1 := ⟨n - 1, by omega⟩
    obtain rfl : i = m := by omega
    rw [f_X4_notesSpoken_L5, if_pos (nI_le (Nat.le_refl _) (by omega))]
  | succ j ih =>
    intro i hi n hn
    obtain ⟨n, rfl⟩ : ∃ z, n = z + 1 := ⟨n - 1, by omega⟩
    obtain ⟨⟨c0, -⟩, ⟨c1, -⟩, ⟨c2, -⟩, ⟨c3, -⟩⟩ := hS.2.2.2 i (by omega)
    have hh := ih (i + 1) (by omega) n (by omega)
    rw [orU] at hh
    rw [f_X4_notesSpoken_L5, if_neg (nI_ge (by omega) (by omega)), e_num2 (by omega) (by omega), e_num3 (by omega) (by omega), c2, c3]
    have no : spkB sp pl h i = 0 → f_X4_notesSpoken_J86 (f_X4_notesSpoken_L5 pl h (nI m) c n) pl h (nI i) (nI m) c (orU (spkB sp pl h) i) = some (orU (spkB sp pl h) m) := fun z => by
      rw [z, Int32.or_zero] at hh
      rw [f_X4_notesSpoken_J86, nI_1]
      exact hh
    by_cases k2 : h < sp (4 * i + 2)
    · rw [if_pos k2, f_X4_notesSpoken_J50, if_pos e00]
      exact no (by unfold spkB; rw [if_pos k2]; split <;> rfl)
    rw [if_neg k2]
    by_cases k3 : sp (4 * i + 3) < h
    · rw [if_pos k3, f_X4_notesSpoken_J50, if_pos e00]
      exact no (by unfold spkB; rw [if_neg k2, if_pos k3]; split <;> rfl)
    rw [if_neg k3, f_X4_notesSpoken_J50, if_neg n10, e_num0 (by omega) (by omega), e_num1 (by omega) (by omega), c0, c1]
    by_cases k0 : sp (4 * i) = pl
    · have z : spkB sp pl h i = 1 <<< (sp (4 * i + 1) &&& 31) := by unfold spkB; rw [if_pos k0, if_neg k2, if_neg k3]
      rw [z] at hh
      rw [if_pos k0, f_X4_notesSpoken_J86, nI_1]
      exact hh
    · rw [if_neg k0]
      exact no (by unfold spkB; rw [if_neg k0])
theorem no5 {c no : Nat → Int32} {n6 h : Int32} {m : Nat} (hN : RNo (nI m) c n6 no m) : ∀ j i, i + j = m → ∀ n, j < n → f_X4_notesOfNoises_L4 h (nI m) c n (orU (noiB no h) i) (nI i) = some (orU (noiB no h) m) := by
  have h5 := hN.1
  intro j
  induction j with
  | zero =>
    intro i hi n hn
    obtain ⟨n, rfl⟩ : ∃ z, n = z + 1 := ⟨n - 1, by omega⟩
    obtain rfl : i = m := by omega
    rw [f_X4_notesOfNoises_L4, if_pos (nI_le (Nat.le_refl _) (by omega))]
  | succ j ih =>
    intro i hi n hn
    obtain ⟨n, rfl⟩ : ∃ z, n = z + 1 := ⟨n - 1, by omega⟩
    obtain ⟨⟨c0, -⟩, ⟨c1, ⟨e, he, s1⟩, hz⟩, ⟨c2, -⟩⟩ := hN.2.2.2 i (by omega)
    have hh := ih (i + 1) (by omega) n (by omega)
    rw [orU] at hh
    have hpos : ¬ no (3 * i + 1) ≤ 0 := by
      rw [s1] at hz ⊢
      have : 0 < e := by
        rcases Nat.eq_zero_or_pos e with q | q
        · rw [q] at hz; exact absurd nI_0 hz
        · exact q
      exact nI_nle this (by omega)
    rw [f_X4_notesOfNoises_L4, if_neg (nI_ge (by omega) (by omega)), e_num0 (by omega) (by omega), e_num1 (by omega) (by omega), e_num2 (by omega) (by omega), c0, c1, c2, f_X4_isLawful, if_neg hpos]
    by_cases k : h - h / no (3 * i + 1) * no (3 * i + 1) = no (3 * i + 2)
    · have z : noiB no h i = 1 <<< (no (3 * i) &&& 31) := by unfold noiB; rw [if_pos k]
      rw [z] at hh
      rw [if_pos k, if_neg n10, f_X4_notesOfNoises_J54, nI_1]
      exact hh
    · have z : noiB no h i = 0 := by unfold noiB; rw [if_neg k]
      rw [z, Int32.or_zero] at hh
      rw [if_neg k, if_pos e00, f_X4_notesOfNoises_J54, nI_1]
      exact hh
theorem in_ite {α : Type} (x a b : Int32) (p q : α) : (if f_X6_in x a b = 0 then p else q) = if x < a then p else if b < x then p else q := by
  unfold f_X6_in
  by_cases h : x < a
  · rw [if_pos h, if_pos h, if_pos e00]
  · rw [if_neg h, if_neg h]
    by_cases h2 : b < x
    · rw [if_pos h2, if_pos h2, if_pos e00]
    · rw [if_neg h2, if_neg h2, if_neg n10]
theorem sp6 {K : Int32 → Option Int32} {c sp st no : Nat → Int32} {n6 x1 hh nn pl : Int32} {m : Nat} (hS : RSp (nI m) c n6 sp m) (hl : f_X6_looksOf st x1 hh = some pl) : f_X6_hears_L22 K x1 hh (nI m) nn no sp st FU 0 0 = K (orU (spkB sp pl hh) m) := by
  have h5 := hS.1
  have hend : ∀ n, f_X6_hears_L22 K x1 hh (nI m) nn no sp st (n + 1) (orU (spkB sp pl hh) m) (nI m) = K (orU (spkB sp pl hh) m) := fun n => by
    rw [f_X6_hears_L22, if_pos (nI_le (Nat.le_refl _) (by omega))]
  have hst : ∀ n i, 0 ≤ i → i < m → f_X6_hears_L22 K x1 hh (nI m) nn no sp st (n + 1) (orU (spkB sp pl hh) i) (nI i) = f_X6_hears_L22 K x1 hh (nI m) nn no sp st n (orU (spkB sp pl hh) (i + 1)) (nI (i + 1)) := fun n i _ hi => by
    have i0 : (4 : Int32) * nI i = nI (4 * i) := pk_mul 4 i
    have i1 : nI (4 * i) + 1 = nI (4 * i + 1) := nI_1 _
    have i2 : nI (4 * i) + 2 = nI (4 * i + 2) := nI_add _ 2
    have i3 : nI (4 * i) + 3 = nI (4 * i + 3) := nI_add _ 3
    have z : ∀ v : Int32, spkB sp pl hh i = v → orU (spkB sp pl hh) (i + 1) = orU (spkB sp pl hh) i ||| v := fun v q => by rw [orU, q]
    rw [f_X6_hears_L22, if_neg (nI_ge (by omega) (by omega)), i0, if_neg (in_row (by omega) (by decide)), hl, Option.bind_some, nI_clamp (n := 4 * i) (by omega)]
    by_cases k0 : sp (4 * i) = pl
    · rw [if_pos k0, i2, i3, if_neg (in_row (a := 4 * i + 2) (by omega) (by decide)), if_neg (in_row (a := 4 * i + 3) (by omega) (by decide)), nI_clamp (n := 4 * i + 2) (by omega), nI_clamp (n := 4 * i + 3) (by omega), in_ite]
      by_cases k2 : hh < sp (4 * i + 2)
      · rw [if_pos k2, f_X6_hears_J83, if_pos e00, f_X6_hears_J108, nI_1, z 0 (by unfold spkB; rw [if_pos k0, if_pos k2])]
      rw [if_neg k2]
      by_cases k3 : sp (4 * i + 3) < hh
      · rw [if_pos k3, f_X6_hears_J83, if_pos e00, f_X6_hears_J108, nI_1, z 0 (by unfold spkB; rw [if_pos k0, if_neg k2, if_pos k3])]
      rw [if_neg k3, f_X6_hears_J83, if_neg n10, i0, i1, if_neg (in_row (a := 4 * i + 1) (by omega) (by decide)), nI_clamp (n := 4 * i + 1) (by omega), f_X6_hears_J108, nI_1, z _ (by unfold spkB; rw [if_pos k0, if_neg k2, if_neg k3])]
    · rw [if_neg k0, f_X6_hears_J83, if_pos e00, f_X6_hears_J108, nI_1, z 0 (by unfold spkB; rw [if_neg k0])]
  exact lp (fun n i => f_X6_hears_L22 K x1 hh (nI m) nn no sp st n (orU (spkB sp pl hh) i) (nI i)) m hend 0 hst (Nat.zero_le _) (by omega)
theorem orU_from (f : Nat → Int32) (a : Int32) : ∀ n, (a ||| orU f n) ||| f n = a ||| orU f (n + 1) := fun n => by rw [orU, Int32.or_assoc]
theorem no6 {c no : Nat → Int32} {n6 h a : Int32} {m : Nat} (hN : RNo (nI m) c n6 no m) : f_X6_hears_L119 h (nI m) no FU a 0 = some (a ||| orU (noiB no h) m) := by
  have h5 := hN.1
  have hend : ∀ n, f_X6_hears_L119 h (nI m) no (n + 1) (a ||| orU (noiB no h) m) (nI m) = some (a ||| orU (noiB no h) m) := fun n => by
    rw [f_X6_hears_L119, if_pos (nI_le (Nat.le_refl _) (by omega))]
  have hst : ∀ n i, 0 ≤ i → i < m → f_X6_hears_L119 h (nI m) no (n + 1) (a ||| orU (noiB no h) i) (nI i) = f_X6_hears_L119 h (nI m) no n (a ||| orU (noiB no h) (i + 1)) (nI (i + 1)) := fun n i _ hi => by
    obtain ⟨⟨c0, -⟩, ⟨c1, ⟨e, he, s1⟩, hz⟩, ⟨c2, -⟩⟩ := hN.2.2.2 i hi
    have i0 : (3 : Int32) * nI i = nI (3 * i) := pk_mul 3 i
    have i1 : nI (3 * i) + 1 = nI (3 * i + 1) := nI_1 _
    have i2 : nI (3 * i) + 2 = nI (3 * i + 2) := nI_add _ 2
    rw [← orU_from]
    rw [f_X6_hears_L119, if_neg (nI_ge (by omega) (by omega)), i0, i1, i2, if_neg (in_row (a := 3 * i + 1) (by omega) (by decide)), nI_clamp (n := 3 * i + 1) (by omega), if_neg hz, if_neg (in_row (a := 3 * i + 2) (by omega) (by decide)), nI_clamp (n := 3 * i + 2) (by omega)]
    by_cases k : h - h / no (3 * i + 1) * no (3 * i + 1) = no (3 * i + 2)
    · have z : noiB no h i = 1 <<< (no (3 * i) &&& 31) := by unfold noiB; rw [if_pos k]
      rw [z, if_pos k, if_neg (in_row (a := 3 * i) (by omega) (by decide)), nI_clamp (n := 3 * i) (by omega), f_X6_hears_J171, nI_1]
    · have z : noiB no h i = 0 := by unfold noiB; rw [if_neg k]
      rw [z, if_neg k, f_X6_hears_J171, nI_1]
  have h := lp (fun n i => f_X6_hears_L119 h (nI m) no n (a ||| orU (noiB no h) i) (nI i)) m hend 0 hst (Nat.zero_le _) (by omega)
  rw [orU, Int32.or_zero] at h
  exact h
theorem op_hears (sc : Nat → Int32) (ar : Nat → Nat → Int32) (lg : Nat → Int64) (hR : Rel sc ar lg) (y1 : Int32) (y2 : Int32) :
    ∃ (q : Int32) (q' : Int32), f_X5_hears (sc 30) (ar 14) (sc 43) (ar 22) (sc 45) (ar 23) y1 y2 = some q ∧ f_X6_hears (sc 46) (sc 47) (sc 48) (ar 27) (ar 33) (ar 34) y1 y2 = some q' ∧ q = q' ∧ Rel sc ar lg := by
  obtain ⟨hM, hT, hTx, nD, nA, nS, nN, hD5, hDi, hAs, hSp, hNo, ⟨hMt, hN2⟩, hIm⟩ := id hR
  have hSp0 : RSp (nI nS) (ar 23) (sc 47) (ar 33) nS := ⟨hSp.1, rfl, hSp.2.2⟩
  have hNo0 : RNo (nI nN) (ar 22) (sc 48) (ar 27) nN := ⟨hNo.1, rfl, hNo.2.2⟩
  have hS5 := hSp.1
  have hN5 := hNo.1
  unfold f_X5_hears f_X6_hears
  rw [hDi, hMt.1, hSp.2.1, hSp.2.2.1, hNo.2.1, hNo.2.2.1, t5_dish, t6_dish (by omega), t5_hour, t6_hour]
  rcases tst_or (n := nD) (by omega) y1 with h | ⟨h, d, hd, rfl⟩
  · rw [if_pos h, if_pos h]
    exact ⟨_, _, rfl, rfl, rfl, hR⟩
  rw [if_neg (tst_ne hd (by omega)), if_neg (tst_ne hd (by omega))]
  rcases tst_or (n := 24) (by decide) y2 with h2 | ⟨h2, k, hk, rfl⟩
  · rw [if_pos h2, if_pos h2]
    exact ⟨_, _, rfl, rfl, rfl, hR⟩
  rw [if_neg (tst_ne hk (by decide)), if_neg (tst_ne hk (by decide))]
  obtain ⟨hc, v, hv, hs⟩ := hMt.2 d hd
  have hl : f_X6_looksOf (ar 34) (nI d) (nI k) = some (nI (lk v k)) := e_looksOf (by omega) hv hk (by rw [← hs, Nat.zero_add])
  have a1 : f_X4_notesSpoken (nI nS) (ar 23) (nI (lk v k)) (nI k) = some (orU (spkB (ar 33) (nI (lk v k)) (nI k)) nS) := sp5 hSp0 nS 0 (Nat.zero_add _) FU (show nS < 1000 by omega)
  have a2 : f_X4_notesOfNoises (nI nN) (ar 22) (nI k) = some (orU (noiB (ar 27) (nI k)) nN) := no5 hNo0 nN 0 (Nat.zero_add _) FU (show nN < 1000 by omega)
  rw [e_place hd hD5 hv hk (hc.trans hs), a1, Option.bind_some, a2, Option.bind_some, sp6 hSp0 hl, f_X6_hears_X116, no6 hNo0]
  exact ⟨_, _, rfl, rfl, rfl, hR⟩
