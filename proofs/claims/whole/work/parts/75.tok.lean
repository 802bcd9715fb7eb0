/-! tokens: both read the same one from the same place -/
def tB (t : Nat → Int32) (i : Nat) : Nat := tN (t i)
theorem scan_ex (P : Nat → Bool) (N : Nat) : ∀ d c, N - c = d → c ≤ N → ∃ s, c ≤ s ∧ s ≤ N ∧ (∀ k, c ≤ k → k < s → P k = true) ∧ (s < N → P s = false) := by
  intro d
  induction d with
  | zero => intro c hd hc; exact ⟨c, Nat.le_refl c, hc, fun k h1 h2 => by omega, fun h => by omega⟩
  | succ d ih =>
    intro c hd hc
    cases q : P c with
    | false => exact ⟨c, Nat.le_refl c, hc, fun k h1 h2 => by omega, fun _ => q⟩
    | true =>
      obtain ⟨s, h1, h2, h3, h4⟩ := ih (c + 1) (by omega) (by omega)
      refine ⟨s, by omega, h2, fun k hk1 hk2 => ?_, h4⟩
      by_cases e : k = c
      · rw [e]; exact q
      · exact h3 k (by omega) hk2
/-- the text as both have it -/
def TX (nT : Nat) (t5 t6 : Nat → Int32) : Prop := nT ≤ 250 ∧ ∀ i, i < nT → t5 i = nI (tB t6 i) ∧ t6 i = nI (tB t6 i) ∧ tB t6 i < 256
theorem tx_at {nT i : Nat} {t5 t6 : Nat → Int32} (h : TX nT t5 t6) (hi : i < nT) : f_X5_at 250 t5 (nI i) = nI (tB t6 i) := by
  have h0 := h.1
  rw [e_at (by omega) (by decide), (h.2 i hi).1]
theorem byte_in {nT i : Nat} {t5 t6 : Nat → Int32} (h : TX nT t5 t6) (hi : i < nT) : f_X6_byteAt (nI nT) t6 (nI i) = some (nI (tB t6 i)) := by
  have h0 := h.1
  unfold f_X6_byteAt
  rw [if_neg (nI_ge hi (by omega)), if_neg (in_row (a := i) (by omega) (by decide)), nI_clamp (n := i) (by omega), ← (h.2 i hi).2.1]
theorem byte_out {nT i : Nat} {t5 t6 : Nat → Int32} (h : TX nT t5 t6) (hi : nT ≤ i) (hi2 : i < 1000) : f_X6_byteAt (nI nT) t6 (nI i) = some (-1) := by
  unfold f_X6_byteAt
  rw [if_pos (nI_le hi (by omega))]
def isD (b : Nat) : Bool := decide (48 ≤ b) && decide (b ≤ 57)
def isL (b : Nat) : Bool := decide (97 ≤ b) && decide (b ≤ 122)
theorem rg_t {lo hi b : Nat} (h1 : lo ≤ b) (h2 : b ≤ hi) : (decide (lo ≤ b) && decide (b ≤ hi)) = true := by rw [decide_eq_true h1, decide_eq_true h2]; rfl
theorem rg_m {lo hi b : Nat} (h : (decide (lo ≤ b) && decide (b ≤ hi)) = true) : lo ≤ b ∧ b ≤ hi := by
  rw [Bool.and_eq_true, decide_eq_true_iff, decide_eq_true_iff] at h
  exact h
theorem rg_f {lo hi b : Nat} (h : b < lo ∨ hi < b) : (decide (lo ≤ b) && decide (b ≤ hi)) = false := by
  rcases h with h | h
  · rw [decide_eq_false (show ¬ lo ≤ b by omega)]; rfl
  · rw [decide_eq_false (show ¬ b ≤ hi by omega), Bool.and_false]
theorem dig5 {nT i : Nat} {t5 t6 : Nat → Int32} (h : TX nT t5 t6) (hi : i < nT) : f_X3_isDigit (nI nT) t5 (nI i) = bI (isD (tB t6 i)) := by
  have h0 := h.1
  have hb := (h.2 i hi).2.2
  unfold f_X3_isDigit isD
  rw [if_neg (nI_ge hi (by omega)), tx_at h hi]
  by_cases c1 : tB t6 i < 48
  · rw [if_pos (show nI (tB t6 i) < 48 from nI_lt (b := 48) c1 (by decide)), rg_f (Or.inl c1)]; rfl
  rw [if_neg (show ¬ nI (tB t6 i) < 48 from nI_nlt (b := 48) (by omega) (by omega))]
  by_cases c2 : 57 < tB t6 i
  · rw [if_pos (show 57 < nI (tB t6 i) from nI_lt (a := 57) c2 (by omega)), rg_f (Or.inr c2)]; rfl
  rw [if_neg (show ¬ 57 < nI (tB t6 i) from nI_nlt (a := 57) (by omega) (by decide)), rg_t (by omega) (by omega)]
  rfl
theorem let5 {nT i : Nat} {t5 t6 : Nat → Int32} (h : TX nT t5 t6) (hi : i < nT) : f_X3_isLetter (nI nT) t5 (nI i) = bI (isL (tB t6 i)) := by
  have h0 := h.1
  have hb := (h.2 i hi).2.2
  unfold f_X3_isLetter isL
  rw [if_neg (nI_ge hi (by omega)), tx_at h hi]
  by_cases c1 : tB t6 i < 97
  · rw [if_pos (show nI (tB t6 i) < 97 from nI_lt (b := 97) c1 (by decide)), rg_f (Or.inl c1)]; rfl
  rw [if_neg (show ¬ nI (tB t6 i) < 97 from nI_nlt (b := 97) (by omega) (by omega))]
  by_cases c2 : 122 < tB t6 i
  · rw [if_pos (show 122 < nI (tB t6 i) from nI_lt (a := 122) c2 (by omega)), rg_f (Or.inr c2)]; rfl
  rw [if_neg (show ¬ 122 < nI (tB t6 i) from nI_nlt (a := 122) (by omega) (by decide)), rg_t (by omega) (by omega)]
  rfl
theorem in_nI {b lo hi : Nat} (hb : b < 2 ^ 31) (hlo : lo < 2 ^ 31) (hhi : hi < 2 ^ 31) : f_X6_in (nI b) (nI lo) (nI hi) = bI (decide (lo ≤ b) && decide (b ≤ hi)) := by
  unfold f_X6_in
  by_cases c1 : b < lo
  · rw [if_pos (nI_lt c1 hlo), rg_f (Or.inl c1)]; rfl
  rw [if_neg (nI_nlt (by omega) hb)]
  by_cases c2 : hi < b
  · rw [if_pos (nI_lt c2 hb), rg_f (Or.inr c2)]; rfl
  rw [if_neg (nI_nlt (by omega) hhi), rg_t (by omega) (by omega)]
  rfl
theorem dig6 {b : Nat} (hb : b < 256) : f_X6_in (nI b) 48 57 = bI (isD b) := in_nI (lo := 48) (hi := 57) (by omega) (by decide) (by decide)
theorem let6 {b : Nat} (hb : b < 256) : f_X6_in (nI b) 97 122 = bI (isL b) := in_nI (lo := 97) (hi := 122) (by omega) (by decide) (by decide)
theorem dig6n : f_X6_in (-1) 48 57 = 0 := by decide
theorem let6n : f_X6_in (-1) 97 122 = 0 := by decide
/-! numbers -/
def vC (B : Nat → Nat) (s : Nat) : Nat → Nat
  | 0 => 0
  | i + 1 => if 100 < vC B s i * 10 + B (s + i) - 48 then 100 else vC B s i * 10 + B (s + i) - 48
def nR (B : Nat → Nat) (s : Nat) : Nat → Nat
  | 0 => 0
  | i + 1 => if i < 3 then 10 * nR B s i + B (s + i) - 48 else nR B s i
theorem vC_b {B : Nat → Nat} {s : Nat} : ∀ i, vC B s i ≤ 100 := by
  intro i
  cases i with
  | zero => exact Nat.zero_le _
  | succ i =>
    rw [vC]
    by_cases h : 100 < vC B s i * 10 + B (s + i) - 48
    · rw [if_pos h]; exact Nat.le_refl _
    · rw [if_neg h]; omega
theorem num5 {nT s e : Nat} {t5 t6 : Nat → Int32} {K : Int32 → Int32 → Option (Int32 × Int32 × Int32)} {x y : Int32} (h : TX nT t5 t6) (hse : s ≤ e) (he : e ≤ nT) (hd : ∀ k, s ≤ k → k < e → isD (tB t6 k) = true) (hx : e < nT → isD (tB t6 e) = false) : f_X3_readNumber_L5 K (nI nT) x y t5 FU (nI s) 0 = K (nI e) (nI (vC (tB t6) s (e - s))) := by
  have h0 := h.1
  have hend : ∀ n, f_X3_readNumber_L5 K (nI nT) x y t5 (n + 1) (nI e) (nI (vC (tB t6) s (e - s))) = K (nI e) (nI (vC (tB t6) s (e - s))) := fun n => by
    rw [f_X3_readNumber_L5]
    by_cases q : nT ≤ e
    · rw [if_pos (nI_le q (by omega))]
    · rw [if_neg (nI_ge (by omega) (by omega)), dig5 h (by omega), hx (by omega), bI_f, if_pos e00]
  have hst : ∀ n i, s ≤ i → i < e → f_X3_readNumber_L5 K (nI nT) x y t5 (n + 1) (nI i) (nI (vC (tB t6) s (i - s))) = f_X3_readNumber_L5 K (nI nT) x y t5 n (nI (i + 1)) (nI (vC (tB t6) s (i + 1 - s))) := fun n i hi1 hi2 => by
    have hb := vC_b (B := tB t6) (s := s) (i - s)
    have hbd := rg_m (hd i hi1 hi2)
    have es : vC (tB t6) s (i + 1 - s) = if 100 < vC (tB t6) s (i - s) * 10 + tB t6 i - 48 then 100 else vC (tB t6) s (i - s) * 10 + tB t6 i - 48 := by
      rw [show i + 1 - s = (i - s) + 1 by omega, vC, show s + (i - s) = i by omega]
    have e1 : nI (vC (tB t6) s (i - s)) * 10 + nI (tB t6 i) - 48 = nI (vC (tB t6) s (i - s) * 10 + tB t6 i - 48) := by
      rw [show (10 : Int32) = nI 10 from rfl, pk_mul, nI_add, show (48 : Int32) = nI 48 from rfl, pk_sub (by omega)]
    rw [f_X3_readNumber_L5, if_neg (nI_ge (by omega) (by omega)), dig5 h (by omega), hd i hi1 hi2, bI_t, if_neg n10, tx_at h (by omega), e1, nI_1, es]
    by_cases q : 100 < vC (tB t6) s (i - s) * 10 + tB t6 i - 48
    · rw [if_pos (show 100 < nI (vC (tB t6) s (i - s) * 10 + tB t6 i - 48) from nI_lt (a := 100) q (by omega)), if_pos q]
      rfl
    · rw [if_neg (show ¬ 100 < nI (vC (tB t6) s (i - s) * 10 + tB t6 i - 48) from nI_nlt (a := 100) (by omega) (by decide)), if_neg q]
  have hl := lp (fun n i => f_X3_readNumber_L5 K (nI nT) x y t5 n (nI i) (nI (vC (tB t6) s (i - s)))) e hend s hst hse (by omega)
  rw [Nat.sub_self] at hl
  exact hl
theorem nR_b {B : Nat → Nat} {s : Nat} : ∀ i, (∀ k, k < i → 48 ≤ B (s + k) ∧ B (s + k) ≤ 57) → nR B s i ≤ 999 := by
  intro i
  match i with
  | 0 => intro _; exact Nat.zero_le _
  | 1 => intro h; have := h 0 (by decide); rw [nR, nR, if_pos (by decide)]; omega
  | 2 => intro h; have := h 0 (by decide); have := h 1 (by decide); rw [nR, nR, nR, if_pos (by decide), if_pos (by decide)]; omega
  | i + 3 =>
    intro h
    have a := h 0 (by omega)
    have b := h 1 (by omega)
    have c := h 2 (by omega)
    have e3 : nR B s 3 ≤ 999 := by rw [nR, nR, nR, nR, if_pos (by decide), if_pos (by decide), if_pos (by decide)]; omega
    have : ∀ j, nR B s (j + 3) = nR B s 3 := by
      intro j
      induction j with
      | zero => rfl
      | succ j ih => rw [show j + 1 + 3 = (j + 3) + 1 by omega, nR, if_neg (by omega), ih]
    rw [this]
    exact e3
theorem num6 {nT s e : Nat} {t5 t6 : Nat → Int32} {K : Int32 → Int32 → Option (Int32 × Int32 × Int32 × Int32 × Int64)} {x y : Int32} {w : Int64} (h : TX nT t5 t6) (hse : s ≤ e) (he : e ≤ nT) (hd : ∀ k, s ≤ k → k < e → isD (tB t6 k) = true) (hx : e < nT → isD (tB t6 e) = false) : f_X6_next_L162 K x (nI nT) (nI s) y w t6 FU (nI s) 0 = K (nI e) (nI (nR (tB t6) s (e - s))) := by
  have h0 := h.1
  have hend : ∀ n, f_X6_next_L162 K x (nI nT) (nI s) y w t6 (n + 1) (nI e) (nI (nR (tB t6) s (e - s))) = K (nI e) (nI (nR (tB t6) s (e - s))) := fun n => by
    rw [f_X6_next_L162]
    by_cases q : nT ≤ e
    · rw [byte_out h q (by omega), Option.bind_some, dig6n, if_pos e00]
    · rw [byte_in h (by omega), Option.bind_some, dig6 (h.2 e (by omega)).2.2, hx (by omega), bI_f, if_pos e00]
  have hst : ∀ n i, s ≤ i → i < e → f_X6_next_L162 K x (nI nT) (nI s) y w t6 (n + 1) (nI i) (nI (nR (tB t6) s (i - s))) = f_X6_next_L162 K x (nI nT) (nI s) y w t6 n (nI (i + 1)) (nI (nR (tB t6) s (i + 1 - s))) := fun n i hi1 hi2 => by
    have hbd := rg_m (hd i hi1 hi2)
    have hb := nR_b (B := tB t6) (s := s) (i - s) (fun k hk => rg_m (hd (s + k) (by omega) (by omega)))
    have es : nR (tB t6) s (i + 1 - s) = if i - s < 3 then 10 * nR (tB t6) s (i - s) + tB t6 i - 48 else nR (tB t6) s (i - s) := by
      rw [show i + 1 - s = (i - s) + 1 by omega, nR, show s + (i - s) = i by omega]
    have e1 : 10 * nI (nR (tB t6) s (i - s)) + nI (tB t6 i) - 48 = nI (10 * nR (tB t6) s (i - s) + tB t6 i - 48) := by
      rw [show (10 : Int32) = nI 10 from rfl, pk_mul, nI_add, show (48 : Int32) = nI 48 from rfl, pk_sub (by omega)]
    rw [f_X6_next_L162, byte_in h (by omega), Option.bind_some, dig6 (h.2 i (by omega)).2.2, hd i hi1 hi2, bI_t, if_neg n10, pk_sub hi1, es]
    by_cases q : i - s < 3
    · rw [if_neg (show ¬ (3 : Int32) ≤ nI (i - s) from nI_ge (b := 3) q (by decide)), Option.bind_some, f_X6_next_J220, e1, nI_1, if_pos q]
    · rw [if_pos (show (3 : Int32) ≤ nI (i - s) from nI_le (a := 3) (by omega) (by omega)), f_X6_next_J220, nI_1, if_neg q]
  have hl := lp (fun n i => f_X6_next_L162 K x (nI nT) (nI s) y w t6 n (nI i) (nI (nR (tB t6) s (i - s)))) e hend s hst hse (by omega)
  rw [Nat.sub_self] at hl
  exact hl
/-- both judge a number alike -/
theorem num_ok {B : Nat → Nat} {s L : Nat} (hL : 0 < L) (hd : ∀ k, k < L → 48 ≤ B (s + k) ∧ B (s + k) ≤ 57) : (¬ 99 < vC B s L ∧ (B s = 48 → L ≤ 1)) ↔ (L < 3 ∧ (B s = 48 → L = 1)) := by
  have big : ∀ j, 49 ≤ B s → j + 3 ≤ L → vC B s (j + 3) = 100 := by
    intro j h49
    induction j with
    | zero =>
      intro hj
      have a := hd 0 (by omega)
      have b := hd 1 (by omega)
      have c := hd 2 (by omega)
      rw [Nat.add_zero] at a
      rw [vC, vC, vC, vC, Nat.add_zero]
      by_cases q1 : 100 < 0 * 10 + B s - 48
      · omega
      rw [if_neg q1]
      by_cases q2 : 100 < (0 * 10 + B s - 48) * 10 + B (s + 1) - 48
      · omega
      rw [if_neg q2]
      by_cases q3 : 100 < ((0 * 10 + B s - 48) * 10 + B (s + 1) - 48) * 10 + B (s + 2) - 48
      · rw [if_pos q3]
      · rw [if_neg q3]; omega
    | succ j ih =>
      intro hj
      have c := hd (j + 3) (by omega)
      rw [show j + 1 + 3 = (j + 3) + 1 by omega, vC, ih (by omega)]
      rw [if_pos (by omega)]
  have h0 := hd 0 hL
  rw [Nat.add_zero] at h0
  constructor
  · rintro ⟨h1, h2⟩
    by_cases z : B s = 48
    · have := h2 z
      exact ⟨by omega, fun _ => by omega⟩
    · refine ⟨?_, fun q => absurd q z⟩
      by_cases l3 : L < 3
      · exact l3
      · have := big (L - 3) (by omega) (by omega)
        rw [show L - 3 + 3 = L by omega] at this
        omega
  · rintro ⟨h1, h2⟩
    refine ⟨?_, fun q => by have := h2 q; omega⟩
    rcases (show L = 1 ∨ L = 2 by omega) with rfl | rfl
    · rw [vC, vC, Nat.add_zero]
      by_cases q1 : 100 < 0 * 10 + B s - 48
      · omega
      · rw [if_neg q1]; omega
    · have b := hd 1 (by omega)
      rw [vC, vC, vC, Nat.add_zero]
      by_cases q1 : 100 < 0 * 10 + B s - 48
      · omega
      rw [if_neg q1]
      by_cases q2 : 100 < (0 * 10 + B s - 48) * 10 + B (s + 1) - 48
      · omega
      · rw [if_neg q2]; omega
theorem num_eq {B : Nat → Nat} {s L : Nat} (hL : 0 < L) (hL3 : L < 3) (hd : ∀ k, k < L → 48 ≤ B (s + k) ∧ B (s + k) ≤ 57) : vC B s L = nR B s L := by
  have a := hd 0 hL
  rw [Nat.add_zero] at a
  rcases (show L = 1 ∨ L = 2 by omega) with rfl | rfl
  · rw [vC, vC, nR, nR, Nat.add_zero, if_pos (show 0 < 3 by decide)]
    by_cases q1 : 100 < 0 * 10 + B s - 48
    · omega
    · rw [if_neg q1]
  · have b := hd 1 (by omega)
    rw [vC, vC, vC, nR, nR, nR, Nat.add_zero, if_pos (show 0 < 3 by decide), if_pos (show 1 < 3 by decide)]
    by_cases q1 : 100 < 0 * 10 + B s - 48
    · omega
    rw [if_neg q1]
    by_cases q2 : 100 < (0 * 10 + B s - 48) * 10 + B (s + 1) - 48
    · omega
    · rw [if_neg q2]; omega
