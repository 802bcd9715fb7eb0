/-! words -/
def wv (B : Nat → Nat) (s : Nat) : Nat → Nat
  | 0 => 0
  | i + 1 => if i < 8 then wv B s i * 256 + B (s + i) else 0
theorem wv_s {B : Nat → Nat} {s i : Nat} (h : i < 8) : wv B s (i + 1) = wv B s i * 256 + B (s + i) := by rw [wv, if_pos h]
theorem wv_big {B : Nat → Nat} {s L : Nat} (h : 8 < L) : wv B s L = 0 := by
  obtain ⟨i, rfl⟩ : ∃ z, L = z + 1 := ⟨L - 1, by omega⟩
  rw [wv, if_neg (by omega)]
theorem wv_lt {B : Nat → Nat} {s L : Nat} (hb : ∀ j, j < L → 97 ≤ B (s + j) ∧ B (s + j) ≤ 122) : wv B s L < 2 ^ 63 := by
  have e0 : wv B s 0 = 0 := rfl
  have e1 : wv B s 1 = wv B s 0 * 256 + B (s + 0) := wv_s (by decide)
  have e2 : wv B s 2 = wv B s 1 * 256 + B (s + 1) := wv_s (by decide)
  have e3 : wv B s 3 = wv B s 2 * 256 + B (s + 2) := wv_s (by decide)
  have e4 : wv B s 4 = wv B s 3 * 256 + B (s + 3) := wv_s (by decide)
  have e5 : wv B s 5 = wv B s 4 * 256 + B (s + 4) := wv_s (by decide)
  have e6 : wv B s 6 = wv B s 5 * 256 + B (s + 5) := wv_s (by decide)
  have e7 : wv B s 7 = wv B s 6 * 256 + B (s + 6) := wv_s (by decide)
  have e8 : wv B s 8 = wv B s 7 * 256 + B (s + 7) := wv_s (by decide)
  rcases (show L = 0 ∨ L = 1 ∨ L = 2 ∨ L = 3 ∨ L = 4 ∨ L = 5 ∨ L = 6 ∨ L = 7 ∨ L = 8 ∨ 8 < L by omega) with rfl | rfl | rfl | rfl | rfl | rfl | rfl | rfl | rfl | hL
  · omega
  · have b0 := hb 0 (by decide)
    omega
  · have b0 := hb 0 (by decide)
    have b1 := hb 1 (by decide)
    omega
  · have b0 := hb 0 (by decide)
    have b1 := hb 1 (by decide)
    have b2 := hb 2 (by decide)
    omega
  · have b0 := hb 0 (by decide)
    have b1 := hb 1 (by decide)
    have b2 := hb 2 (by decide)
    have b3 := hb 3 (by decide)
    omega
  · have b0 := hb 0 (by decide)
    have b1 := hb 1 (by decide)
    have b2 := hb 2 (by decide)
    have b3 := hb 3 (by decide)
    have b4 := hb 4 (by decide)
    omega
  · have b0 := hb 0 (by decide)
    have b1 := hb 1 (by decide)
    have b2 := hb 2 (by decide)
    have b3 := hb 3 (by decide)
    have b4 := hb 4 (by decide)
    have b5 := hb 5 (by decide)
    omega
  · have b0 := hb 0 (by decide)
    have b1 := hb 1 (by decide)
    have b2 := hb 2 (by decide)
    have b3 := hb 3 (by decide)
    have b4 := hb 4 (by decide)
    have b5 := hb 5 (by decide)
    have b6 := hb 6 (by decide)
    omega
  · have b0 := hb 0 (by decide)
    have b1 := hb 1 (by decide)
    have b2 := hb 2 (by decide)
    have b3 := hb 3 (by decide)
    have b4 := hb 4 (by decide)
    have b5 := hb 5 (by decide)
    have b6 := hb 6 (by decide)
    have b7 := hb 7 (by decide)
    omega
  · rw [wv_big hL]; decide
theorem we0 {B : Nat → Nat} {s L : Nat} (hb : ∀ j, j < L → 97 ≤ B (s + j) ∧ B (s + j) ≤ 122) : wv B s L = 1684632424 ↔ L = 4 ∧ B (s + 0) = 100 ∧ B (s + 1) = 105 ∧ B (s + 2) = 115 ∧ B (s + 3) = 104 := by
  have e0 : wv B s 0 = 0 := rfl
  have e1 : wv B s 1 = wv B s 0 * 256 + B (s + 0) := wv_s (by decide)
  have e2 : wv B s 2 = wv B s 1 * 256 + B (s + 1) := wv_s (by decide)
  have e3 : wv B s 3 = wv B s 2 * 256 + B (s + 2) := wv_s (by decide)
  have e4 : wv B s 4 = wv B s 3 * 256 + B (s + 3) := wv_s (by decide)
  have e5 : wv B s 5 = wv B s 4 * 256 + B (s + 4) := wv_s (by decide)
  have e6 : wv B s 6 = wv B s 5 * 256 + B (s + 5) := wv_s (by decide)
  have e7 : wv B s 7 = wv B s 6 * 256 + B (s + 6) := wv_s (by decide)
  have e8 : wv B s 8 = wv B s 7 * 256 + B (s + 7) := wv_s (by decide)
  rcases (show L = 0 ∨ L = 1 ∨ L = 2 ∨ L = 3 ∨ L = 4 ∨ L = 5 ∨ L = 6 ∨ L = 7 ∨ L = 8 ∨ 8 < L by omega) with rfl | rfl | rfl | rfl | rfl | rfl | rfl | rfl | rfl | hL
  · omega
  · have b0 := hb 0 (by decide)
    omega
  · have b0 := hb 0 (by decide)
    have b1 := hb 1 (by decide)
    omega
  · have b0 := hb 0 (by decide)
    have b1 := hb 1 (by decide)
    have b2 := hb 2 (by decide)
    omega
  · have b0 := hb 0 (by decide)
    have b1 := hb 1 (by decide)
    have b2 := hb 2 (by decide)
    have b3 := hb 3 (by decide)
    omega
  · have b0 := hb 0 (by decide)
    have b1 := hb 1 (by decide)
    have b2 := hb 2 (by decide)
    have b3 := hb 3 (by decide)
    have b4 := hb 4 (by decide)
    omega
  · have b0 := hb 0 (by decide)
    have b1 := hb 1 (by decide)
    have b2 := hb 2 (by decide)
    have b3 := hb 3 (by decide)
    have b4 := hb 4 (by decide)
    have b5 := hb 5 (by decide)
    omega
  · have b0 := hb 0 (by decide)
    have b1 := hb 1 (by decide)
    have b2 := hb 2 (by decide)
    have b3 := hb 3 (by decide)
    have b4 := hb 4 (by decide)
    have b5 := hb 5 (by decide)
    have b6 := hb 6 (by decide)
    omega
  · have b0 := hb 0 (by decide)
    have b1 := hb 1 (by decide)
    have b2 := hb 2 (by decide)
    have b3 := hb 3 (by decide)
    have b4 := hb 4 (by decide)
    have b5 := hb 5 (by decide)
    have b6 := hb 6 (by decide)
    have b7 := hb 7 (by decide)
    omega
  · rw [wv_big hL]; omega
theorem we1 {B : Nat → Nat} {s L : Nat} (hb : ∀ j, j < L → 97 ≤ B (s + j) ∧ B (s + j) ≤ 122) : wv B s L = 32493203050161522 ↔ L = 7 ∧ B (s + 0) = 115 ∧ B (s + 1) = 112 ∧ B (s + 2) = 101 ∧ B (s + 3) = 97 ∧ B (s + 4) = 107 ∧ B (s + 5) = 101 ∧ B (s + 6) = 114 := by
  have e0 : wv B s 0 = 0 := rfl
  have e1 : wv B s 1 = wv B s 0 * 256 + B (s + 0) := wv_s (by decide)
  have e2 : wv B s 2 = wv B s 1 * 256 + B (s + 1) := wv_s (by decide)
  have e3 : wv B s 3 = wv B s 2 * 256 + B (s + 2) := wv_s (by decide)
  have e4 : wv B s 4 = wv B s 3 * 256 + B (s + 3) := wv_s (by decide)
  have e5 : wv B s 5 = wv B s 4 * 256 + B (s + 4) := wv_s (by decide)
  have e6 : wv B s 6 = wv B s 5 * 256 + B (s + 5) := wv_s (by decide)
  have e7 : wv B s 7 = wv B s 6 * 256 + B (s + 6) := wv_s (by decide)
  have e8 : wv B s 8 = wv B s 7 * 256 + B (s + 7) := wv_s (by decide)
  rcases (show L = 0 ∨ L = 1 ∨ L = 2 ∨ L = 3 ∨ L = 4 ∨ L = 5 ∨ L = 6 ∨ L = 7 ∨ L = 8 ∨ 8 < L by omega) with rfl | rfl | rfl | rfl | rfl | rfl | rfl | rfl | rfl | hL
  · omega
  · have b0 := hb 0 (by decide)
    omega
  · have b0 := hb 0 (by decide)
    have b1 := hb 1 (by decide)
    omega
  · have b0 := hb 0 (by decide)
    have b1 := hb 1 (by decide)
    have b2 := hb 2 (by decide)
    omega
  · have b0 := hb 0 (by decide)
    have b1 := hb 1 (by decide)
    have b2 := hb 2 (by decide)
    have b3 := hb 3 (by decide)
    omega
  · have b0 := hb 0 (by decide)
    have b1 := hb 1 (by decide)
    have b2 := hb 2 (by decide)
    have b3 := hb 3 (by decide)
    have b4 := hb 4 (by decide)
    omega
  · have b0 := hb 0 (by decide)
    have b1 := hb 1 (by decide)
    have b2 := hb 2 (by decide)
    have b3 := hb 3 (by decide)
    have b4 := hb 4 (by decide)
    have b5 := hb 5 (by decide)
    omega
  · have b0 := hb 0 (by decide)
    have b1 := hb 1 (by decide)
    have b2 := hb 2 (by decide)
    have b3 := hb 3 (by decide)
    have b4 := hb 4 (by decide)
    have b5 := hb 5 (by decide)
    have b6 := hb 6 (by decide)
    omega
  · have b0 := hb 0 (by decide)
    have b1 := hb 1 (by decide)
    have b2 := hb 2 (by decide)
    have b3 := hb 3 (by decide)
    have b4 := hb 4 (by decide)
    have b5 := hb 5 (by decide)
    have b6 := hb 6 (by decide)
    have b7 := hb 7 (by decide)
    omega
  · rw [wv_big hL]; omega
theorem we2 {B : Nat → Nat} {s L : Nat} (hb : ∀ j, j < L → 97 ≤ B (s + j) ∧ B (s + j) ≤ 122) : wv B s L = 474315584357 ↔ L = 5 ∧ B (s + 0) = 110 ∧ B (s + 1) = 111 ∧ B (s + 2) = 105 ∧ B (s + 3) = 115 ∧ B (s + 4) = 101 := by
  have e0 : wv B s 0 = 0 := rfl
  have e1 : wv B s 1 = wv B s 0 * 256 + B (s + 0) := wv_s (by decide)
  have e2 : wv B s 2 = wv B s 1 * 256 + B (s + 1) := wv_s (by decide)
  have e3 : wv B s 3 = wv B s 2 * 256 + B (s + 2) := wv_s (by decide)
  have e4 : wv B s 4 = wv B s 3 * 256 + B (s + 3) := wv_s (by decide)
  have e5 : wv B s 5 = wv B s 4 * 256 + B (s + 4) := wv_s (by decide)
  have e6 : wv B s 6 = wv B s 5 * 256 + B (s + 5) := wv_s (by decide)
  have e7 : wv B s 7 = wv B s 6 * 256 + B (s + 6) := wv_s (by decide)
  have e8 : wv B s 8 = wv B s 7 * 256 + B (s + 7) := wv_s (by decide)
  rcases (show L = 0 ∨ L = 1 ∨ L = 2 ∨ L = 3 ∨ L = 4 ∨ L = 5 ∨ L = 6 ∨ L = 7 ∨ L = 8 ∨ 8 < L by omega) with rfl | rfl | rfl | rfl | rfl | rfl | rfl | rfl | rfl | hL
  · omega
  · have b0 := hb 0 (by decide)
    omega
  · have b0 := hb 0 (by decide)
    have b1 := hb 1 (by decide)
    omega
  · have b0 := hb 0 (by decide)
    have b1 := hb 1 (by decide)
    have b2 := hb 2 (by decide)
    omega
  · have b0 := hb 0 (by decide)
    have b1 := hb 1 (by decide)
    have b2 := hb 2 (by decide)
    have b3 := hb 3 (by decide)
    omega
  · have b0 := hb 0 (by decide)
    have b1 := hb 1 (by decide)
    have b2 := hb 2 (by decide)
    have b3 := hb 3 (by decide)
    have b4 := hb 4 (by decide)
    omega
  · have b0 := hb 0 (by decide)
    have b1 := hb 1 (by decide)
    have b2 := hb 2 (by decide)
    have b3 := hb 3 (by decide)
    have b4 := hb 4 (by decide)
    have b5 := hb 5 (by decide)
    omega
  · have b0 := hb 0 (by decide)
    have b1 := hb 1 (by decide)
    have b2 := hb 2 (by decide)
    have b3 := hb 3 (by decide)
    have b4 := hb 4 (by decide)
    have b5 := hb 5 (by decide)
    have b6 := hb 6 (by decide)
    omega
  · have b0 := hb 0 (by decide)
    have b1 := hb 1 (by decide)
    have b2 := hb 2 (by decide)
    have b3 := hb 3 (by decide)
    have b4 := hb 4 (by decide)
    have b5 := hb 5 (by decide)
    have b6 := hb 6 (by decide)
    have b7 := hb 7 (by decide)
    omega
  · rw [wv_big hL]; omega
theorem we3 {B : Nat → Nat} {s L : Nat} (hb : ∀ j, j < L → 97 ≤ B (s + j) ∧ B (s + j) ≤ 122) : wv B s L = 418548245874 ↔ L = 5 ∧ B (s + 0) = 97 ∧ B (s + 1) = 115 ∧ B (s + 2) = 107 ∧ B (s + 3) = 101 ∧ B (s + 4) = 114 := by
  have e0 : wv B s 0 = 0 := rfl
  have e1 : wv B s 1 = wv B s 0 * 256 + B (s + 0) := wv_s (by decide)
  have e2 : wv B s 2 = wv B s 1 * 256 + B (s + 1) := wv_s (by decide)
  have e3 : wv B s 3 = wv B s 2 * 256 + B (s + 2) := wv_s (by decide)
  have e4 : wv B s 4 = wv B s 3 * 256 + B (s + 3) := wv_s (by decide)
  have e5 : wv B s 5 = wv B s 4 * 256 + B (s + 4) := wv_s (by decide)
  have e6 : wv B s 6 = wv B s 5 * 256 + B (s + 5) := wv_s (by decide)
  have e7 : wv B s 7 = wv B s 6 * 256 + B (s + 6) := wv_s (by decide)
  have e8 : wv B s 8 = wv B s 7 * 256 + B (s + 7) := wv_s (by decide)
  rcases (show L = 0 ∨ L = 1 ∨ L = 2 ∨ L = 3 ∨ L = 4 ∨ L = 5 ∨ L = 6 ∨ L = 7 ∨ L = 8 ∨ 8 < L by omega) with rfl | rfl | rfl | rfl | rfl | rfl | rfl | rfl | rfl | hL
  · omega
  · have b0 := hb 0 (by decide)
    omega
  · have b0 := hb 0 (by decide)
    have b1 := hb 1 (by decide)
    omega
  · have b0 := hb 0 (by decide)
    have b1 := hb 1 (by decide)
    have b2 := hb 2 (by decide)
    omega
  · have b0 := hb 0 (by decide)
    have b1 := hb 1 (by decide)
    have b2 := hb 2 (by decide)
    have b3 := hb 3 (by decide)
    omega
  · have b0 := hb 0 (by decide)
    have b1 := hb 1 (by decide)
    have b2 := hb 2 (by decide)
    have b3 := hb 3 (by decide)
    have b4 := hb 4 (by decide)
    omega
  · have b0 := hb 0 (by decide)
    have b1 := hb 1 (by decide)
    have b2 := hb 2 (by decide)
    have b3 := hb 3 (by decide)
    have b4 := hb 4 (by decide)
    have b5 := hb 5 (by decide)
    omega
  · have b0 := hb 0 (by decide)
    have b1 := hb 1 (by decide)
    have b2 := hb 2 (by decide)
    have b3 := hb 3 (by decide)
    have b4 := hb 4 (by decide)
    have b5 := hb 5 (by decide)
    have b6 := hb 6 (by decide)
    omega
  · have b0 := hb 0 (by decide)
    have b1 := hb 1 (by decide)
    have b2 := hb 2 (by decide)
    have b3 := hb 3 (by decide)
    have b4 := hb 4 (by decide)
    have b5 := hb 5 (by decide)
    have b6 := hb 6 (by decide)
    have b7 := hb 7 (by decide)
    omega
  · rw [wv_big hL]; omega
def lenW (k : Nat) : Nat := lenJS.getD k 0
def wCh (k j : Nat) : Nat := tN (sch k (nI j))
theorem ch_ok : ∀ k, k < 4 → lenW k < 8 ∧ ∀ j, j < lenW k → sch k (nI j) = nI (wCh k j) ∧ wCh k j < 256 := by decide +kernel
/-- the letters from s on are word k -/
def WE (B : Nat → Nat) (s k L : Nat) : Prop := L = lenW k ∧ ∀ j, j < lenW k → B (s + j) = wCh k j
theorem wE0 {B : Nat → Nat} {s L : Nat} : WE B s 0 L ↔ L = 4 ∧ B (s + 0) = 100 ∧ B (s + 1) = 105 ∧ B (s + 2) = 115 ∧ B (s + 3) = 104 := by
  have hl : lenW 0 = 4 := by decide +kernel
  have c0 : wCh 0 0 = 100 := by decide +kernel
  have c1 : wCh 0 1 = 105 := by decide +kernel
  have c2 : wCh 0 2 = 115 := by decide +kernel
  have c3 : wCh 0 3 = 104 := by decide +kernel
  unfold WE
  rw [hl]
  constructor
  · rintro ⟨h1, h2⟩
    exact ⟨h1, (h2 0 (by decide)).trans c0, (h2 1 (by decide)).trans c1, (h2 2 (by decide)).trans c2, (h2 3 (by decide)).trans c3⟩
  · rintro ⟨h1, g0, g1, g2, g3⟩
    refine ⟨h1, fun j hj => ?_⟩
    rcases (show j = 0 ∨ j = 1 ∨ j = 2 ∨ j = 3 by omega) with rfl | rfl | rfl | rfl
    · rw [g0, c0]
    · rw [g1, c1]
    · rw [g2, c2]
    · rw [g3, c3]
theorem wE1 {B : Nat → Nat} {s L : Nat} : WE B s 1 L ↔ L = 7 ∧ B (s + 0) = 115 ∧ B (s + 1) = 112 ∧ B (s + 2) = 101 ∧ B (s + 3) = 97 ∧ B (s + 4) = 107 ∧ B (s + 5) = 101 ∧ B (s + 6) = 114 := by
  have hl : lenW 1 = 7 := by decide +kernel
  have c0 : wCh 1 0 = 115 := by decide +kernel
  have c1 : wCh 1 1 = 112 := by decide +kernel
  have c2 : wCh 1 2 = 101 := by decide +kernel
  have c3 : wCh 1 3 = 97 := by decide +kernel
  have c4 : wCh 1 4 = 107 := by decide +kernel
  have c5 : wCh 1 5 = 101 := by decide +kernel
  have c6 : wCh 1 6 = 114 := by decide +kernel
  unfold WE
  rw [hl]
  constructor
  · rintro ⟨h1, h2⟩
    exact ⟨h1, (h2 0 (by decide)).trans c0, (h2 1 (by decide)).trans c1, (h2 2 (by decide)).trans c2, (h2 3 (by decide)).trans c3, (h2 4 (by decide)).trans c4, (h2 5 (by decide)).trans c5, (h2 6 (by decide)).trans c6⟩
  · rintro ⟨h1, g0, g1, g2, g3, g4, g5, g6⟩
    refine ⟨h1, fun j hj => ?_⟩
    rcases (show j = 0 ∨ j = 1 ∨ j = 2 ∨ j = 3 ∨ j = 4 ∨ j = 5 ∨ j = 6 by omega) with rfl | rfl | rfl | rfl | rfl | rfl | rfl
    · rw [g0, c0]
    · rw [g1, c1]
    · rw [g2, c2]
    · rw [g3, c3]
    · rw [g4, c4]
    · rw [g5, c5]
    · rw [g6, c6]
theorem wE2 {B : Nat → Nat} {s L : Nat} : WE B s 2 L ↔ L = 5 ∧ B (s + 0) = 110 ∧ B (s + 1) = 111 ∧ B (s + 2) = 105 ∧ B (s + 3) = 115 ∧ B (s + 4) = 101 := by
  have hl : lenW 2 = 5 := by decide +kernel
  have c0 : wCh 2 0 = 110 := by decide +kernel
  have c1 : wCh 2 1 = 111 := by decide +kernel
  have c2 : wCh 2 2 = 105 := by decide +kernel
  have c3 : wCh 2 3 = 115 := by decide +kernel
  have c4 : wCh 2 4 = 101 := by decide +kernel
  unfold WE
  rw [hl]
  constructor
  · rintro ⟨h1, h2⟩
    exact ⟨h1, (h2 0 (by decide)).trans c0, (h2 1 (by decide)).trans c1, (h2 2 (by decide)).trans c2, (h2 3 (by decide)).trans c3, (h2 4 (by decide)).trans c4⟩
  · rintro ⟨h1, g0, g1, g2, g3, g4⟩
    refine ⟨h1, fun j hj => ?_⟩
    rcases (show j = 0 ∨ j = 1 ∨ j = 2 ∨ j = 3 ∨ j = 4 by omega) with rfl | rfl | rfl | rfl | rfl
    · rw [g0, c0]
    · rw [g1, c1]
    · rw [g2, c2]
    · rw [g3, c3]
    · rw [g4, c4]
theorem wE3 {B : Nat → Nat} {s L : Nat} : WE B s 3 L ↔ L = 5 ∧ B (s + 0) = 97 ∧ B (s + 1) = 115 ∧ B (s + 2) = 107 ∧ B (s + 3) = 101 ∧ B (s + 4) = 114 := by
  have hl : lenW 3 = 5 := by decide +kernel
  have c0 : wCh 3 0 = 97 := by decide +kernel
  have c1 : wCh 3 1 = 115 := by decide +kernel
  have c2 : wCh 3 2 = 107 := by decide +kernel
  have c3 : wCh 3 3 = 101 := by decide +kernel
  have c4 : wCh 3 4 = 114 := by decide +kernel
  unfold WE
  rw [hl]
  constructor
  · rintro ⟨h1, h2⟩
    exact ⟨h1, (h2 0 (by decide)).trans c0, (h2 1 (by decide)).trans c1, (h2 2 (by decide)).trans c2, (h2 3 (by decide)).trans c3, (h2 4 (by decide)).trans c4⟩
  · rintro ⟨h1, g0, g1, g2, g3, g4⟩
    refine ⟨h1, fun j hj => ?_⟩
    rcases (show j = 0 ∨ j = 1 ∨ j = 2 ∨ j = 3 ∨ j = 4 by omega) with rfl | rfl | rfl | rfl | rfl
    · rw [g0, c0]
    · rw [g1, c1]
    · rw [g2, c2]
    · rw [g3, c3]
    · rw [g4, c4]
theorem spell5 {nT s e k : Nat} {t5 t6 : Nat → Int32} (h : TX nT t5 t6) (hk : k < 4) (hse : s ≤ e) (he : e ≤ nT) : (WE (tB t6) s k (e - s) → f_X3_spells (nI e) (nI s) t5 k = some 1) ∧ (¬ WE (tB t6) s k (e - s) → f_X3_spells (nI e) (nI s) t5 k = some 0) := by
  have h0 := h.1
  obtain ⟨h8, hc⟩ := ch_ok k hk
  have el : Int32.ofNat (lenJS.getD k 0) = nI (lenW k) := rfl
  have ell : lenJS.getD k 0 = lenW k := rfl
  unfold f_X3_spells
  rw [pk_sub hse, el]
  by_cases q : e - s = lenW k
  · rw [if_pos (by rw [q])]
    have step : ∀ n i, i < lenW k → f_X3_spells_L24 k (nI s) t5 (n + 1) (nI i) = if tB t6 (s + i) = wCh k i then f_X3_spells_L24 k (nI s) t5 n (nI (i + 1)) else some 0 := fun n i hi => by
      have hb := (h.2 (s + i) (by omega)).2.2
      rw [f_X3_spells_L24, el, ell, if_neg (nI_ge hi (by omega)), if_neg (in_row (a := i) hi (by omega)), nI_add, tx_at h (by omega), (hc i hi).1, nI_1]
      by_cases r : tB t6 (s + i) = wCh k i
      · rw [if_pos (by rw [r]), if_pos r]
      · rw [if_neg (fun w => r ((nI_eq (by omega) (by have := (hc i hi).2; omega)).mp w)), if_neg r]
    have hl := lpE (K0 := some 1) (K1 := some 0) (fun n i => f_X3_spells_L24 k (nI s) t5 n (nI i)) (fun i => !decide (tB t6 (s + i) = wCh k i)) (lenW k) (fun n => by
        show f_X3_spells_L24 k (nI s) t5 (n + 1) (nI (lenW k)) = some 1
        rw [f_X3_spells_L24, el, if_pos (nI_le (Nat.le_refl _) (by omega))]) (fun n i hi hP => by
        show f_X3_spells_L24 k (nI s) t5 (n + 1) (nI i) = some 0
        have hP' : (!decide (tB t6 (s + i) = wCh k i)) = true := hP
        rw [step n i hi]
        by_cases r : tB t6 (s + i) = wCh k i
        · rw [decide_eq_true r] at hP'; exact absurd hP' (by decide)
        · rw [if_neg r]) (fun n i hi hP => by
        show f_X3_spells_L24 k (nI s) t5 (n + 1) (nI i) = f_X3_spells_L24 k (nI s) t5 n (nI (i + 1))
        have hP' : (!decide (tB t6 (s + i) = wCh k i)) = false := hP
        rw [step n i hi]
        by_cases r : tB t6 (s + i) = wCh k i
        · rw [if_pos r]
        · rw [decide_eq_false r] at hP'; exact absurd hP' (by decide)) (by omega)
    have hl' : f_X3_spells_L24 k (nI s) t5 FU 0 = if anyB (fun i => !decide (tB t6 (s + i) = wCh k i)) (lenW k) = true then some 0 else some 1 := hl
    rw [hl']
    constructor
    · rintro ⟨-, w⟩
      rw [(anyB_f (lenW k)).mpr (fun i hi => by rw [decide_eq_true (w i hi)]; rfl), if_neg (by decide)]
    · intro w
      rw [if_pos]
      cases z : anyB (fun i => !decide (tB t6 (s + i) = wCh k i)) (lenW k) with
      | true => rfl
      | false =>
        refine absurd ⟨q, fun j hj => ?_⟩ w
        have := (anyB_f (lenW k)).mp z j hj
        by_cases r : tB t6 (s + j) = wCh k j
        · exact r
        · rw [decide_eq_false r] at this; exact absurd this (by decide)
  · rw [if_neg (fun w => q ((nI_eq (by omega) (by omega)).mp w))]
    exact ⟨fun w => absurd w.1 q, fun _ => rfl⟩
theorem word5 {nT s e : Nat} {t5 t6 : Nat → Int32} {x : Int32} (h : TX nT t5 t6) (hse : s ≤ e) (he : e ≤ nT) (hd : ∀ k, s ≤ k → k < e → isL (tB t6 k) = true) (hx : e < nT → isL (tB t6 e) = false) : ∃ tk, (f_X3_readWord (nI nT) (nI s) (nI s) x t5 = some (nI e, nI tk)) ∧ ((tk < 4 ∧ WE (tB t6) s tk (e - s)) ∨ (tk = 7 ∧ ∀ k, k < 4 → ¬ WE (tB t6) s k (e - s))) := by
  have h0 := h.1
  have hend : ∀ n, f_X3_readWord_L0 (f_X3_readWord_X35 (nI s) x t5) (nI nT) (nI s) x t5 (n + 1) (nI e) = f_X3_readWord_X35 (nI s) x t5 (nI e) := fun n => by
    rw [f_X3_readWord_L0]
    by_cases q : nT ≤ e
    · rw [if_pos (nI_le q (by omega))]
    · rw [if_neg (nI_ge (by omega) (by omega)), let5 h (by omega), hx (by omega), bI_f, if_pos e00]
  have hst : ∀ n i, s ≤ i → i < e → f_X3_readWord_L0 (f_X3_readWord_X35 (nI s) x t5) (nI nT) (nI s) x t5 (n + 1) (nI i) = f_X3_readWord_L0 (f_X3_readWord_X35 (nI s) x t5) (nI nT) (nI s) x t5 n (nI (i + 1)) := fun n i hi1 hi2 => by
    rw [f_X3_readWord_L0, if_neg (nI_ge (by omega) (by omega)), let5 h (by omega), hd i hi1 hi2, bI_t, if_neg n10, nI_1]
  have hl : f_X3_readWord (nI nT) (nI s) (nI s) x t5 = f_X3_readWord_X35 (nI s) x t5 (nI e) := lp (fun n i => f_X3_readWord_L0 (f_X3_readWord_X35 (nI s) x t5) (nI nT) (nI s) x t5 n (nI i)) e hend s hst hse (by omega)
  rw [hl, f_X3_readWord_X35]
  have s0 := spell5 h (k := 0) (by decide) hse he
  have s1 := spell5 h (k := 1) (by decide) hse he
  have s2 := spell5 h (k := 2) (by decide) hse he
  have s3 := spell5 h (k := 3) (by decide) hse he
  by_cases q0 : WE (tB t6) s 0 (e - s)
  · rw [s0.1 q0, Option.bind_some, if_neg n10]; exact ⟨0, rfl, Or.inl ⟨by decide, q0⟩⟩
  rw [s0.2 q0, Option.bind_some, if_pos e00]
  by_cases q1 : WE (tB t6) s 1 (e - s)
  · rw [s1.1 q1, Option.bind_some, if_neg n10]; exact ⟨1, rfl, Or.inl ⟨by decide, q1⟩⟩
  rw [s1.2 q1, Option.bind_some, if_pos e00]
  by_cases q2 : WE (tB t6) s 2 (e - s)
  · rw [s2.1 q2, Option.bind_some, if_neg n10]; exact ⟨2, rfl, Or.inl ⟨by decide, q2⟩⟩
  rw [s2.2 q2, Option.bind_some, if_pos e00]
  by_cases q3 : WE (tB t6) s 3 (e - s)
  · rw [s3.1 q3, Option.bind_some, if_neg n10]; exact ⟨3, rfl, Or.inl ⟨by decide, q3⟩⟩
  rw [s3.2 q3, Option.bind_some, if_pos e00]
  refine ⟨7, rfl, Or.inr ⟨rfl, fun k hk => ?_⟩⟩
  rcases (show k = 0 ∨ k = 1 ∨ k = 2 ∨ k = 3 by omega) with rfl | rfl | rfl | rfl
  · exact q0
  · exact q1
  · exact q2
  · exact q3
theorem l_shor (w b : Nat) (hb : b < 256) : (lN w <<< ((8 : Int32).toInt64 &&& 63)) ||| (nI b).toInt64 = lN (w * 256 + b) := by
  rw [nI_l (by omega)]
  apply Int64.toBitVec_inj.1
  show BitVec.ofNat 64 w <<< 8 ||| BitVec.ofNat 64 b = BitVec.ofNat 64 (w * 256 + b)
  rw [show w * 256 + b = w <<< 8 ||| b by rw [← Nat.shiftLeft_add_eq_or_of_lt (show b < 2 ^ 8 from hb), Nat.shiftLeft_eq]]
  apply BitVec.eq_of_getLsbD_eq
  intro i hi
  rw [BitVec.getLsbD_or, BitVec.getLsbD_shiftLeft, BitVec.getLsbD_ofNat, BitVec.getLsbD_ofNat, BitVec.getLsbD_ofNat, Nat.testBit_or, Nat.testBit_shiftLeft, decide_eq_true hi]
  by_cases h8 : i < 8
  · rw [decide_eq_true h8, decide_eq_false (show ¬ i ≥ 8 by omega), Bool.not_true, Bool.and_false, Bool.false_and, Bool.false_and, Bool.false_or, Bool.false_or]
  · rw [decide_eq_false h8, decide_eq_true (show i ≥ 8 by omega), decide_eq_true (show i - 8 < 64 by omega), Bool.not_false, Bool.true_and, Bool.true_and, Bool.true_and, Bool.true_and, Bool.true_and]
theorem word6 {nT s e : Nat} {t5 t6 : Nat → Int32} {x y : Int32} (h : TX nT t5 t6) (hse : s ≤ e) (he : e ≤ nT) (hd : ∀ k, s ≤ k → k < e → isL (tB t6 k) = true) (hx : e < nT → isL (tB t6 e) = false) : f_X6_next_L76 (nI nT) (nI s) x y t6 FU (nI s) 0 = some (nI e, nI s, x, y, lN (wv (tB t6) s (e - s))) := by
  have h0 := h.1
  have hend : ∀ n, f_X6_next_L76 (nI nT) (nI s) x y t6 (n + 1) (nI e) (lN (wv (tB t6) s (e - s))) = some (nI e, nI s, x, y, lN (wv (tB t6) s (e - s))) := fun n => by
    rw [f_X6_next_L76]
    by_cases q : nT ≤ e
    · rw [byte_out h q (by omega), Option.bind_some, let6n, if_pos e00]
    · rw [byte_in h (by omega), Option.bind_some, let6 (h.2 e (by omega)).2.2, hx (by omega), bI_f, if_pos e00]
  have hst : ∀ n i, s ≤ i → i < e → f_X6_next_L76 (nI nT) (nI s) x y t6 (n + 1) (nI i) (lN (wv (tB t6) s (i - s))) = f_X6_next_L76 (nI nT) (nI s) x y t6 n (nI (i + 1)) (lN (wv (tB t6) s (i + 1 - s))) := fun n i hi1 hi2 => by
    have es : wv (tB t6) s (i + 1 - s) = if i - s < 8 then wv (tB t6) s (i - s) * 256 + tB t6 i else 0 := by
      rw [show i + 1 - s = (i - s) + 1 by omega, wv, show s + (i - s) = i by omega]
    rw [f_X6_next_L76, byte_in h (by omega), Option.bind_some, let6 (h.2 i (by omega)).2.2, hd i hi1 hi2, bI_t, if_neg n10, pk_sub hi1, es]
    by_cases q : i - s < 8
    · rw [if_neg (show ¬ (8 : Int32) ≤ nI (i - s) from nI_ge (b := 8) q (by decide)), Option.bind_some, f_X6_next_J130, nI_1, if_pos q, l_shor _ _ (h.2 i (by omega)).2.2]
    · rw [if_pos (show (8 : Int32) ≤ nI (i - s) from nI_le (a := 8) (by omega) (by omega)), f_X6_next_J130, nI_1, if_neg q]
      rfl
  have hl := lp (fun n i => f_X6_next_L76 (nI nT) (nI s) x y t6 n (nI i) (lN (wv (tB t6) s (i - s)))) e hend s hst hse (by omega)
  rw [Nat.sub_self] at hl
  exact hl
