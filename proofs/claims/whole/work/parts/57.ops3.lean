/-! the pairs that write: heard, turn, lend -/
theorem RUn_push {uc st : Nat → Int32} {nD nL m : Nat} {w v : Int32} (h : RUn (nI m) uc st 0 nD nL m) (hm : m < 10) (hw : w = -1 ∨ (inN w nD ∧ inN v 8)) : RUn (nI (m + 1)) (rowU uc m w v 0 0) (rowK st m w v) 0 nD (nL + if w = -1 then 1 else 0) (m + 1) := by
  obtain ⟨h1, h2, h3, h4, h5⟩ := h
  have r0 : ∀ i, i < 2 * m → rowK st m w v (0 + 84 + i) = st (0 + 84 + i) := fun i hi => by
    unfold rowK
    rw [pk_un (by omega), pk_un (by omega), pk_un (by omega)]
  have ra : rowK st m w v (0 + 84 + 2 * m) = w := by
    unfold rowK
    rw [pk_un (by omega), pk_un (by omega), show 0 + 84 + 2 * m = 84 + 2 * m by omega, pk_us]
  have rb : rowK st m w v (0 + 84 + 2 * m + 1) = v := by
    unfold rowK
    rw [pk_un (by omega), show 0 + 84 + 2 * m + 1 = 84 + 2 * m + 1 by omega, pk_us]
  have hc : ∀ n, n ≤ m → cntU (rowK st m w v) 0 n = cntU st 0 n := by
    intro n
    induction n with
    | zero => intro _; rfl
    | succ n ih => intro hn; rw [cntU, cntU, ih (by omega), r0 (2 * n) (by omega)]
  refine ⟨rfl, by omega, pk_us, ?_, fun i hi => ?_⟩
  · rw [cntU, hc m (Nat.le_refl m), ra]
    omega
  · by_cases him : i = m
    · subst him
      rw [ra, rb, rowU_0, rowU_1]
      exact ⟨rfl, rfl, hw⟩
    · have a0 := r0 (2 * i) (by omega)
      have a1 := r0 (2 * i + 1) (by omega)
      rw [show 0 + 84 + (2 * i + 1) = 0 + 84 + 2 * i + 1 by omega] at a1
      rw [a0, a1, rowU_n (by omega), rowU_n (by omega)]
      exact h5 i (by omega)
theorem RUn_shift {uc st : Nat → Int32} {nD nL : Nat} (h : RUn (nI 10) uc st 0 nD nL 10) : RUn (nI 9) (shC uc 48) (upd (shS st 18) 2 (nI 9)) 0 nD nL 9 := by
  obtain ⟨h1, h2, h3, h4, h5⟩ := h
  have r0 : ∀ i, i < 18 → upd (shS st 18) 2 (nI 9) (0 + 84 + i) = st (0 + 84 + i + 2) := fun i hi => by
    rw [pk_un (by omega)]
    simp only [shS]
    rw [if_pos (by omega)]
  have hc : ∀ n, n ≤ 9 → cntU (upd (shS st 18) 2 (nI 9)) 0 n ≤ cntU st 0 (n + 1) := by
    intro n
    induction n with
    | zero => intro _; exact Nat.zero_le _
    | succ n ih =>
      intro hn
      have := ih (by omega)
      rw [cntU, cntU, r0 (2 * n) (by omega), show 0 + 84 + 2 * n + 2 = 0 + 84 + 2 * (n + 1) by omega]
      omega
  refine ⟨rfl, by omega, pk_us, Nat.le_trans (hc 9 (by decide)) h4, fun i hi => ?_⟩
  have a0 := r0 (2 * i) (by omega)
  have a1 := r0 (2 * i + 1) (by omega)
  rw [show 0 + 84 + (2 * i + 1) = 0 + 84 + 2 * i + 1 by omega] at a1
  rw [a0, a1, show 0 + 84 + 2 * i + 2 = 0 + 84 + 2 * (i + 1) by omega, show 0 + 84 + 2 * i + 1 + 2 = 0 + 84 + 2 * (i + 1) + 1 by omega]
  have b0 : shC uc 48 (4 * i) = uc (4 * (i + 1)) := by simp only [shC]; rw [if_pos (by omega)]; rfl
  have b1 : shC uc 48 (4 * i + 1) = uc (4 * (i + 1) + 1) := by simp only [shC]; rw [if_pos (by omega), show 4 * i + 1 + 4 = 4 * (i + 1) + 1 by omega]
  rw [b0, b1]
  exact h5 (i + 1) (by omega)
theorem known_rel {um : Int32} {uc st : Nat → Int32} {nD nL m : Nat} {w v : Int32} (h : RUn um uc st 0 nD nL m) (hw : w = -1 ∨ (inN w nD ∧ inN v 8)) :
    ∃ (um' : Int32) (uc' st' : Nat → Int32) (m' : Nat), f_X0_remember 10 um uc w v = some (um', uc') ∧ f_X6_known st w v = some st' ∧ RUn um' uc' st' 0 nD (nL + if w = -1 then 1 else 0) m' ∧ ∀ j, j ≠ 2 → j < 84 → st' j = st j := by
  have h1 : um = nI m := h.1
  have h2 : m ≤ 10 := h.2.1
  have h3 : st 2 = nI m := h.2.2.1
  subst h1
  have e5 := e_remember (m := m) (c := uc) (w := w) (v := v) h2
  have e6 := e_known (m := m) (st := st) (w := w) (v := v) h2 h3
  by_cases hm : m = 10
  · subst hm
    rw [if_pos rfl] at e5 e6
    refine ⟨_, _, _, 10, e5, e6, RUn_push (RUn_shift h) (by decide) hw, fun j hj hj2 => ?_⟩
    unfold rowK
    rw [pk_un hj, pk_un (by omega), pk_un (by omega), pk_un hj]
    simp only [shS]
    rw [if_neg (by omega)]
  · rw [if_neg hm] at e5 e6
    refine ⟨_, _, _, m + 1, e5, e6, RUn_push h (by omega) hw, fun j hj hj2 => ?_⟩
    unfold rowK
    rw [pk_un hj, pk_un (by omega), pk_un (by omega)]
theorem t6_in7 (x : Int32) : f_X6_in x 0 7 = tst 8 x := in_pred (n := 8) (by decide) x
/-- a write of a mount -/
theorem RMt_set {cells st st' : Nat → Int32} {nD d k : Nat} (h : RMt (nI nD) cells st 0 nD) (hD : nD ≤ 5) (hk : k < 8) (e : ∀ j, j < 5 → j ≠ d → st' (0 + 3 + j) = st (0 + 3 + j)) (es : st' (0 + 3 + d) = nI k) : RMt (nI nD) (upd cells (4 * d + 0) (nI k)) st' 0 nD := by
  refine ⟨rfl, fun i hi => ?_⟩
  by_cases h1 : i = d
  · subst h1
    rw [es, Nat.add_zero, pk_us]
    exact ⟨rfl, k, hk, rfl⟩
  · rw [pk_un (by omega), e i (by omega) h1]
    exact h.2 i hi
theorem op_turn (sc : Nat → Int32) (ar : Nat → Nat → Int32) (lg : Nat → Int64) (hR : Rel sc ar lg) (y1 : Int32) (y2 : Int32) :
    ∃ (q : Int32 × (Nat → Int32) × Int32 × (Nat → Int32)) (q' : Int32 × (Nat → Int32)), f_X5_turn (sc 30) (ar 14) (sc 31) (sc 32) (ar 15) y1 y2 = some q ∧ f_X6_turn (sc 46) (ar 34) y1 y2 = some q' ∧ q.1 = q'.1 ∧ Rel (uv sc 32 q.2.2.1) (uv (uv (uv ar 14 q.2.1) 15 q.2.2.2) 34 q'.2) lg := by
  obtain ⟨hM, hT, hTx, nD, nA, nS, nN, hD5, hDi, hAs, hSp, hNo, ⟨hMt, nL, nG, nU, hLe, hLo, hUn⟩, hIm⟩ := id hR
  have hm : sc 31 = 10 := hM.2.2.2.2.2.2.2.2.2.2.2.2.2.2.2.1
  have nochange : ∀ v : Int32, ∃ (q : Int32 × (Nat → Int32) × Int32 × (Nat → Int32)) (q' : Int32 × (Nat → Int32)), some (v, ar 14, sc 32, ar 15) = some q ∧ some (v, ar 34) = some q' ∧ q.1 = q'.1 ∧ Rel (uv sc 32 q.2.2.1) (uv (uv (uv ar 14 q.2.1) 15 q.2.2.2) 34 q'.2) lg := fun v =>
    ⟨_, _, rfl, rfl, rfl, hM, hT, hTx, nD, nA, nS, nN, hD5, hDi, hAs, hSp, hNo, ⟨hMt, nL, nG, nU, hLe, hLo, hUn⟩, hIm⟩
  unfold f_X5_turn f_X6_turn
  rw [hDi, hMt.1, t5_dish, t6_dish (by omega), t6_in7]
  rcases tst_or (n := nD) (by omega) y1 with h | ⟨h, d, hd, rfl⟩
  · rw [if_pos h, if_pos h]
    exact nochange _
  · rw [if_neg (tst_ne hd (by omega)), if_neg (tst_ne hd (by omega))]
    rcases pk_ix y2 (n := 8) (by decide) with h2 | h2 | ⟨k, hk, rfl⟩
    · have : tst 8 y2 = 0 := by unfold tst; rw [if_pos h2]
      rw [if_pos h2, if_pos this]
      exact nochange _
    · have h0 : ¬ y2 < 0 := fun q => by
        rw [Int32.lt_iff_toInt_lt] at q
        rw [Int32.le_iff_toInt_le] at h2
        have a1 : (nI 8).toInt = 8 := by decide
        have a2 : (0 : Int32).toInt = 0 := by decide
        omega
      have h8 : ¬ y2 < 8 := fun q => by
        rw [Int32.lt_iff_toInt_lt] at q
        rw [Int32.le_iff_toInt_le] at h2
        have a1 : (nI 8).toInt = 8 := by decide
        have a2 : (8 : Int32).toInt = 8 := by decide
        omega
      have : tst 8 y2 = 0 := by unfold tst; rw [if_neg h0, if_pos h2]
      rw [if_neg h0, if_neg h8, if_pos this]
      exact nochange _
    · obtain ⟨hc, v, hv, hs⟩ := hMt.2 d hd
      have hs' : ar 34 (3 + d) = nI v := by rw [← hs, Nat.zero_add]
      have i3 : (3 : Int32) + nI d = nI (3 + d) := nI_add 3 d
      rw [if_neg (nI_pos (by omega)), if_pos (show nI k < 8 from nI_lt (b := 8) hk (by decide)), if_neg (tst_ne hk (by decide)), i3, if_neg (in_row (by omega) (by decide)), nI_clamp (n := 3 + d) (by omega), hs', e_num0 hd (by omega), hc, hs]
      by_cases hvk : v = k
      · have e1 : nI v = nI k := by rw [hvk]
        rw [if_pos e1, if_pos e1]
        exact nochange _
      · have e1 : ¬ nI v = nI k := fun q => hvk ((nI_eq (by omega) (by omega)).mp q)
        rw [if_neg e1, if_neg e1, hm]
        obtain ⟨um', uc', st', m', e5, e6, hU', hst⟩ := known_rel (w := nI d) (v := nI v) hUn (Or.inr ⟨⟨d, hd, rfl⟩, v, hv, rfl⟩)
        rw [e5, e6, Option.bind_some, Option.bind_some, if_neg (in_row2 (a := 3 + d) (by omega) (by decide)), show f_X2_set (nI nD) (ar 14) (nI d) 0 (nI k) = upd (ar 14) (4 * d + 0) (nI k) from e_set (w := 0) hd (by omega) (by decide)]
        have hne : ¬ nI d = -1 := fun q => by
          have := nI_pos (n := d) (by omega)
          rw [q] at this
          exact this (by decide)
        rw [if_neg hne, Nat.add_zero] at hU'
        have hMt0 : RMt (nI nD) (ar 14) (ar 34) 0 nD := ⟨rfl, hMt.2⟩
        have un : ∀ j, j ≠ 3 + d → upd st' (3 + d) (nI k) j = st' j := fun j h => pk_un h
        have us : upd st' (3 + d) (nI k) (0 + 3 + d) = nI k := by rw [Nat.zero_add]; exact pk_us
        have hNow : RNow (sc 30) (upd (ar 14) (4 * d + 0) (nI k)) (sc 26) (ar 12) (sc 28) (ar 13) um' uc' (upd st' (3 + d) (nI k)) 0 nD nA := by
          refine ⟨?_, nL, nG, m', RLe_c hLe ((un _ (by omega)).trans (hst _ (by omega) (by omega))) fun j hj => (un _ (by omega)).trans (hst _ (by omega) (by omega)), RLo_c hLo ((un _ (by omega)).trans (hst _ (by omega) (by omega))) fun j hj => (un _ (by omega)).trans (hst _ (by omega) (by omega)), RUn_c hU' (un _ (by omega)) fun j hj => un _ (by omega)⟩
          rw [hMt.1]
          exact RMt_set hMt0 hD5 hk (fun j hj hjd => (un _ (by omega)).trans (hst _ (by omega) (by omega))) us
        exact ⟨_, _, rfl, rfl, rfl, hM, hT, hTx, nD, nA, nS, nN, hD5, hDi, hAs, hSp, hNo, hNow, hIm⟩
