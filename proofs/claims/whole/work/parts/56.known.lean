/-! what may be undone: one more is known, the oldest is lost -/
def shC (c : Nat → Int32) (i : Nat) : Nat → Int32 := fun k => if k + 4 < i then c (k + 4) else c k
theorem shC_step {c : Nat → Int32} {i : Nat} (h : 4 ≤ i) : upd (shC c i) (i - 4) (shC c i i) = shC c (i + 1) := by
  funext k
  by_cases hk : k = i - 4
  · subst hk
    rw [pk_us]
    simp only [shC]
    rw [if_neg (by omega), if_pos (by omega), show i - 4 + 4 = i by omega]
  · rw [pk_un hk]
    simp only [shC]
    by_cases h1 : k + 4 < i
    · rw [if_pos h1, if_pos (by omega)]
    · rw [if_neg h1, if_neg (by omega)]
theorem drop_loop {K : (Nat → Int32) → Option (Int32 × (Nat → Int32))} {many : Int32} {c : Nat → Int32} : ∀ (j i : Nat), i + j = 48 → 4 ≤ i → ∀ n, j < n → f_X2_dropFirst_L2 K many n (nI i) (shC c i) = K (shC c 48) := by
  intro j
  induction j with
  | zero =>
    intro i hi h4 n hn
    obtain ⟨n, rfl⟩ : ∃ z, n = z + 1 := ⟨n - 1, by omega⟩
    obtain rfl : i = 48 := by omega
    rw [f_X2_dropFirst_L2, if_pos (by decide)]
  | succ j ih =>
    intro i hi h4 n hn
    obtain ⟨n, rfl⟩ : ∃ z, n = z + 1 := ⟨n - 1, by omega⟩
    rw [f_X2_dropFirst_L2, if_neg (show ¬ (48 : Int32) ≤ nI i from nI_ge (b := 48) (by omega) (by decide)), e_at (by omega) (by decide), show nI i - 4 = nI (i - 4) from pk_sub (a := i) (b := 4) h4, e_put (by omega) (by decide), shC_step h4, nI_1]
    exact ih (i + 1) (by omega) (by omega) n (by omega)
theorem shC_4 (c : Nat → Int32) : shC c 4 = c := by
  funext k
  simp only [shC]
  rw [if_neg (by omega)]
theorem e_dropLast {m : Nat} (hm : m ≤ 12) : f_X2_dropLast (nI (m + 1)) = nI m := by
  unfold f_X2_dropLast
  rw [nI_pred, if_neg (nI_pos (by omega))]
theorem e_dropFirst {m : Nat} {c : Nat → Int32} (hm : m ≤ 12) : f_X2_dropFirst (nI (m + 1)) c = some (nI m, shC c 48) := by
  unfold f_X2_dropFirst
  have h := drop_loop (K := f_X2_dropFirst_X35 (nI (m + 1))) (many := nI (m + 1)) (c := c) 44 4 rfl (by decide) FU (by decide)
  rw [shC_4] at h
  rw [show (4 : Int32) = nI 4 from rfl, h, f_X2_dropFirst_X35, e_dropLast hm]
theorem e_remember {m : Nat} {c : Nat → Int32} {w v : Int32} (hm : m ≤ 10) : f_X0_remember (nI 10) (nI m) c w v = if m = 10 then some (nI 10, rowU (shC c 48) 9 w v 0 0) else some (nI (m + 1), rowU c m w v 0 0) := by
  unfold f_X0_remember
  by_cases h : m = 10
  · subst h
    rw [if_pos rfl, e_full1 (by decide) (by decide), if_neg (by decide), e_dropFirst (m := 9) (by decide)]
    show f_X0_remember_J17 w v (nI 10) (nI 9) (shC c 48) = _
    rw [f_X0_remember_J17, e_add (by decide) (by decide)]
  · rw [if_neg h, e_full0 (by omega) (by decide), if_pos rfl, f_X0_remember_J17, e_add (by omega) (by decide)]
def shS (st : Nat → Int32) (i : Nat) : Nat → Int32 := fun k => if 84 ≤ k ∧ k < 84 + i then st (k + 2) else st k
theorem shS_step {st : Nat → Int32} {i : Nat} : upd (shS st i) (84 + i) (shS st i (84 + i + 2)) = shS st (i + 1) := by
  funext k
  by_cases hk : k = 84 + i
  · subst hk
    rw [pk_us]
    simp only [shS]
    rw [if_neg (by omega), if_pos (by omega)]
  · rw [pk_un hk]
    simp only [shS]
    by_cases h1 : 84 ≤ k ∧ k < 84 + i
    · rw [if_pos h1, if_pos (by omega)]
    · rw [if_neg h1, if_neg (by omega)]
theorem shift_loop {K : (Nat → Int32) → Option (Nat → Int32)} {x1 x2 : Int32} {st : Nat → Int32} : ∀ (j i : Nat), i + j = 18 → ∀ n, j < n → f_X6_known_L13 K x1 x2 n (nI i) (shS st i) = K (shS st 18) := by
  intro j
  induction j with
  | zero =>
    intro i hi n hn
    obtain ⟨n, rfl⟩ : ∃ z, n = z + 1 := ⟨n - 1, by omega⟩
    obtain rfl : i = 18 := by omega
    rw [f_X6_known_L13, if_pos (by decide)]
  | succ j ih =>
    intro i hi n hn
    obtain ⟨n, rfl⟩ : ∃ z, n = z + 1 := ⟨n - 1, by omega⟩
    have i0 : (84 : Int32) + nI i = nI (84 + i) := nI_add 84 i
    have i1 : nI (84 + i) + 2 = nI (84 + i + 2) := nI_add (84 + i) 2
    rw [f_X6_known_L13, if_neg (show ¬ (18 : Int32) ≤ nI i from nI_ge (b := 18) (by omega) (by decide)), i0, i1, if_neg (in_row (by omega) (by decide)), if_neg (in_row (by omega) (by decide)), nI_clamp (n := 84 + i + 2) (by omega), nI_clamp (n := 84 + i) (by omega), shS_step, nI_1]
    exact ih (i + 1) (by omega) n (by omega)
theorem shS_0 (st : Nat → Int32) : shS st 0 = st := by
  funext k
  simp only [shS]
  rw [if_neg (by omega)]
/-- one more row of two behind the others -/
def rowK (st : Nat → Int32) (m : Nat) (w v : Int32) : Nat → Int32 := upd (upd (upd st (84 + 2 * m) w) (84 + 2 * m + 1) v) 2 (nI (m + 1))
theorem e_knownJ {m : Nat} {st : Nat → Int32} {w v : Int32} (hm : m < 10) (h2 : st 2 = nI m) : f_X6_known_J55 w v st = some (rowK st m w v) := by
  unfold f_X6_known_J55
  have c2 : Int32.toNatClampNeg 2 = 2 := by decide
  have i0 : (84 : Int32) + 2 * nI m = nI (84 + 2 * m) := by rw [show (84 : Int32) = nI 84 from rfl, show (2 : Int32) = nI 2 from rfl, pk_mul, nI_add]
  have i1 : nI (84 + 2 * m) + 1 = nI (84 + 2 * m + 1) := nI_1 _
  rw [c2, h2, i0, i1, if_neg (in_row (by omega) (by decide)), if_neg (in_row (by omega) (by decide)), nI_clamp (n := 84 + 2 * m) (by omega), nI_clamp (n := 84 + 2 * m + 1) (by omega), pk_un (by omega), pk_un (by omega), h2, nI_1]
  rfl
theorem e_known {m : Nat} {st : Nat → Int32} {w v : Int32} (hm : m ≤ 10) (h2 : st 2 = nI m) : f_X6_known st w v = if m = 10 then some (rowK (upd (shS st 18) 2 (nI 9)) 9 w v) else some (rowK st m w v) := by
  unfold f_X6_known
  have c2 : Int32.toNatClampNeg 2 = 2 := by decide
  rw [c2, h2]
  by_cases h : m = 10
  · subst h
    rw [if_pos rfl, if_pos (by decide)]
    have hh := shift_loop (K := f_X6_known_X45 (f_X6_known_J55 w v) w v) (x1 := w) (x2 := v) (st := st) 18 0 rfl FU (by decide)
    rw [shS_0] at hh
    rw [show (0 : Int32) = nI 0 from rfl, hh, f_X6_known_X45, c2]
    have e : shS st 18 2 = nI 10 := by simp only [shS]; rw [if_neg (by omega)]; exact h2
    rw [e, show nI 10 - 1 = nI 9 from rfl]
    exact e_knownJ (by decide) pk_us
  · rw [if_neg h, if_neg (by rw [show (10 : Int32) = nI 10 from rfl, b_eq (by omega) (by decide)]; exact h)]
    exact e_knownJ (by omega) h2
