/-! chance -/
def anN (mc : Nat → Int32) (a b : Nat) : Nat → Nat := orN (fun d => seenN (mV mc d) a (b + 1))
theorem anN_lt {mc : Nat → Int32} {a b n : Nat} : anN mc a b n < 2 ^ 8 := orN_lt n fun _ _ => seenN_lt
theorem any5 {mc st : Nat → Int32} {nD a b : Nat} (hMt : RMt (nI nD) mc st 0 nD) (hD : nD ≤ 5) (hab : a ≤ b) (hb : b < 24) : f_X5_placesSeenByAny (nI nD) mc (nI a) (nI b) = some (nI (anN mc a b nD)) := by
  unfold f_X5_placesSeenByAny
  have hend : ∀ n, f_X5_placesSeenByAny_L5 (nI a) (nI b) (nI nD) mc (n + 1) (nI (anN mc a b nD)) (nI nD) = some (nI (anN mc a b nD)) := fun n => by
    rw [f_X5_placesSeenByAny_L5, if_pos (nI_le (Nat.le_refl _) (by omega))]
  have hst : ∀ n i, 0 ≤ i → i < nD → f_X5_placesSeenByAny_L5 (nI a) (nI b) (nI nD) mc (n + 1) (nI (anN mc a b i)) (nI i) = f_X5_placesSeenByAny_L5 (nI a) (nI b) (nI nD) mc n (nI (anN mc a b (i + 1))) (nI (i + 1)) := fun n i _ hi => by
    rw [f_X5_placesSeenByAny_L5, if_neg (nI_ge hi (by omega)), e_seen hMt hD hi hb hab, Option.bind_some, b_or, nI_1]
    rfl
  exact lp (fun n i => f_X5_placesSeenByAny_L5 (nI a) (nI b) (nI nD) mc n (nI (anN mc a b i)) (nI i)) nD hend 0 hst (Nat.zero_le _) (by omega)
theorem an_room {mc : Nat → Int32} {a b nD p : Nat} : (anN mc a b nD).testBit p = true ↔ 0 < rmD mc a b nD p := by
  unfold anN
  rw [orN_tb, anyB_iff, rmD_p]
  constructor
  · rintro ⟨e, he, h⟩
    rw [seenN_tb, anyB_iff] at h
    obtain ⟨k, hk, h⟩ := h
    rw [Bool.and_eq_true, decide_eq_true_iff, decide_eq_true_iff] at h
    exact ⟨e, he, k, hk, h.1, h.2⟩
  · rintro ⟨e, he, k, hk, h1, h2⟩
    refine ⟨e, he, ?_⟩
    rw [seenN_tb, anyB_iff]
    exact ⟨k, hk, by rw [Bool.and_eq_true, decide_eq_true_iff, decide_eq_true_iff]; exact ⟨h1, h2⟩⟩
def chL (ac : Nat → Int32) (m : Nat) : Nat → Nat
  | 0 => 1
  | i + 1 => if m.testBit (aP ac i) = true then chL ac m i * 10 else chL ac m i
def chW (ac : Nat → Int32) (m : Nat) : Nat → Nat
  | 0 => 1
  | i + 1 => if m.testBit (aP ac i) = true then chW ac m i * (10 - aS ac i) else chW ac m i
theorem chL_b {ac : Nat → Int32} {m : Nat} : ∀ i, chL ac m i ≤ 10 ^ i ∧ 0 < chL ac m i := by
  intro i
  induction i with
  | zero => exact ⟨Nat.le_refl _, show 0 < 1 by decide⟩
  | succ i ih =>
    rw [chL, Nat.pow_succ]
    by_cases h : m.testBit (aP ac i) = true
    · rw [if_pos h]; exact ⟨Nat.mul_le_mul_right 10 ih.1, by omega⟩
    · rw [if_neg h]; exact ⟨by omega, ih.2⟩
theorem chW_b {ac : Nat → Int32} {m : Nat} : ∀ i, chW ac m i ≤ chL ac m i := by
  intro i
  induction i with
  | zero => exact Nat.le_refl _
  | succ i ih =>
    rw [chL, chW]
    by_cases h : m.testBit (aP ac i) = true
    · rw [if_pos h, if_pos h]; exact Nat.mul_le_mul ih (Nat.sub_le _ _)
    · rw [if_neg h, if_neg h]; exact ih
theorem chance5 {K : Int32 → Int32 → Option Int32} {ac ak : Nat → Int32} {n6 x3 : Int32} {nA m : Nat} (hA : RAs (nI nA) ac n6 ak nA) (hm : m < 2 ^ 8) : f_X5_chance_L34 K x3 (nI m) (nI nA) ac FU 1 1 0 = K (nI (chL ac m nA)) (nI (chW ac m nA)) := by
  have h5 := hA.1
  have hend : ∀ n, f_X5_chance_L34 K x3 (nI m) (nI nA) ac (n + 1) (nI (chL ac m nA)) (nI (chW ac m nA)) (nI nA) = K (nI (chL ac m nA)) (nI (chW ac m nA)) := fun n => by
    rw [f_X5_chance_L34, if_pos (nI_le (Nat.le_refl _) (by omega))]
  have hst : ∀ n i, 0 ≤ i → i < nA → f_X5_chance_L34 K x3 (nI m) (nI nA) ac (n + 1) (nI (chL ac m i)) (nI (chW ac m i)) (nI i) = f_X5_chance_L34 K x3 (nI m) (nI nA) ac n (nI (chL ac m (i + 1))) (nI (chW ac m (i + 1))) (nI (i + 1)) := fun n i _ hi => by
    have h0 := af0 hA hi
    have h1 := af1 hA hi
    have e10 : ∀ k : Nat, nI k * 10 = nI (k * 10) := fun k => pk_mul k 10
    have es : (10 : Int32) - nI (aS ac i) = nI (10 - aS ac i) := pk_sub (a := 10) (by omega)
    rw [f_X5_chance_L34, if_neg (nI_ge hi (by omega)), e_num0 hi (by omega), h0.1, e_bit5 (by omega) (by omega), if_bI, chL, chW]
    by_cases q : m.testBit (aP ac i) = true
    · rw [if_pos q, if_pos q, if_pos q, e_num1 hi (by omega), h1.1, es, e10, pk_mul, f_X5_chance_J98, nI_1]
    · rw [if_neg q, if_neg q, if_neg q, f_X5_chance_J98, nI_1]
  exact lp (fun n i => f_X5_chance_L34 K x3 (nI m) (nI nA) ac n (nI (chL ac m i)) (nI (chW ac m i)) (nI i)) nA hend 0 hst (Nat.zero_le _) (by omega)
theorem chance6 {K : Int32 → Int32 → Option (Int32 × (Nat → Int32))} {ac ak sl : Nat → Int32} {n6 x3 : Int32} {nA m : Nat} {R : Nat → Nat} (hA : RAs (nI nA) ac n6 ak nA) (hR : ∀ p, R p < 2 ^ 31) (hm : ∀ p, m.testBit p = true ↔ 0 < R p) : f_X6_chance_L34 K x3 (nI nA) ak (rmE sl R) FU 1 1 0 = K (nI (chW ac m nA)) (nI (chL ac m nA)) := by
  have h5 := hA.1
  have hend : ∀ n, f_X6_chance_L34 K x3 (nI nA) ak (rmE sl R) (n + 1) (nI (chW ac m nA)) (nI (chL ac m nA)) (nI nA) = K (nI (chW ac m nA)) (nI (chL ac m nA)) := fun n => by
    rw [f_X6_chance_L34, if_pos (nI_le (Nat.le_refl _) (by omega))]
  have hst : ∀ n i, 0 ≤ i → i < nA → f_X6_chance_L34 K x3 (nI nA) ak (rmE sl R) (n + 1) (nI (chW ac m i)) (nI (chL ac m i)) (nI i) = f_X6_chance_L34 K x3 (nI nA) ak (rmE sl R) n (nI (chW ac m (i + 1))) (nI (chL ac m (i + 1))) (nI (i + 1)) := fun n i _ hi => by
    have h0 := af0 hA hi
    have h1 := af1 hA hi
    have hr := hR (aP ac i)
    have i0 : (2 : Int32) * nI i = nI (2 * i) := pk_mul 2 i
    have i1 : nI (2 * i) + 1 = nI (2 * i + 1) := nI_1 _
    have e10 : ∀ k : Nat, nI k * 10 = nI (k * 10) := fun k => pk_mul k 10
    have e1 : ∀ k : Nat, nI k * 1 = nI k := fun k => (pk_mul k 1).trans (by rw [Nat.mul_one])
    have es : (10 : Int32) - nI (aS ac i) = nI (10 - aS ac i) := pk_sub (a := 10) (by omega)
    rw [f_X6_chance_L34, if_neg (nI_ge hi (by omega)), i0, if_neg (in_row (a := 2 * i) (by omega) (by decide)), nI_clamp (n := 2 * i) (by omega), h0.2.2, if_neg (in_row (a := aP ac i) h0.2.1 (by decide)), nI_clamp (n := aP ac i) (by omega), rmE_in h0.2.1, chL, chW]
    by_cases q : m.testBit (aP ac i) = true
    · have hp := (hm (aP ac i)).mp q
      rw [if_neg (nI_nle hp hr), f_X6_chance_J65, if_neg n10, i0, i1, if_neg (in_row (a := 2 * i + 1) (by omega) (by decide)), nI_clamp (n := 2 * i + 1) (by omega), h1.2.2.2, es, f_X6_chance_J92, if_neg n10, f_X6_chance_J108, e10, pk_mul, nI_1, if_pos q, if_pos q]
    · have hz : R (aP ac i) = 0 := by
        rcases Nat.eq_zero_or_pos (R (aP ac i)) with z | z
        · exact z
        · exact absurd ((hm (aP ac i)).mpr z) q
      rw [hz, if_pos (by decide), f_X6_chance_J65, if_pos e00, f_X6_chance_J92, if_pos e00, f_X6_chance_J108, e1, e1, nI_1, if_neg q, if_neg q]
  exact lp (fun n i => f_X6_chance_L34 K x3 (nI nA) ak (rmE sl R) n (nI (chW ac m i)) (nI (chL ac m i)) (nI i)) nA hend 0 hst (Nat.zero_le _) (by omega)
/-! the greatest common divisor -/
theorem g_rec (x y : Nat) : Nat.gcd y (x % y) = Nat.gcd x y := by
  rw [Nat.gcd_comm x y, Nat.gcd_rec y x, Nat.gcd_comm]
theorem half {x y m : Nat} (hy : 0 < y) (hr : 0 < x % y) (h : y < 2 ^ (m + 1)) : y % (x % y) < 2 ^ m := by
  have h1 : x % y < y := Nat.mod_lt _ hy
  have h2 : y % (x % y) < x % y := Nat.mod_lt _ hr
  have h3 : y % (x % y) + x % y ≤ y := by
    have h4 := Nat.div_add_mod y (x % y)
    have h5 : 1 ≤ y / (x % y) := (Nat.one_le_div_iff hr).mpr (Nat.le_of_lt h1)
    have h6 : x % y * 1 ≤ x % y * (y / (x % y)) := Nat.mul_le_mul_left _ h5
    omega
  rw [Nat.pow_succ] at h
  omega
theorem div5 : ∀ m x y, x < 2 ^ 31 → y < 2 ^ m → m ≤ 30 → ∀ n k, 2 * m + 1 < n → k + 2 * m + 1 < 100 → f_X5_commonDivisor_L7 n (nI x) (nI y) (nI k) = some (nI (Nat.gcd x y)) := by
  have z0 : ∀ x n k, k < 100 → 0 < n → f_X5_commonDivisor_L7 n (nI x) (nI 0) (nI k) = some (nI (Nat.gcd x 0)) := fun x n k hk hn => by
    obtain ⟨n, rfl⟩ : ∃ z, n = z + 1 := ⟨n - 1, by omega⟩
    rw [f_X5_commonDivisor_L7, if_neg (show ¬ (100 : Int32) ≤ nI k from nI_ge (b := 100) hk (by decide)), if_pos nI_0, Nat.gcd_zero_right]
  have one : ∀ x y n k, x < 2 ^ 31 → 0 < y → y < 2 ^ 31 → k < 100 → f_X5_commonDivisor_L7 (n + 1) (nI x) (nI y) (nI k) = f_X5_commonDivisor_L7 n (nI y) (nI (x % y)) (nI (k + 1)) := fun x y n k hx h0 hy hk => by
    rw [f_X5_commonDivisor_L7, if_neg (show ¬ (100 : Int32) ≤ nI k from nI_ge (b := 100) hk (by decide)), if_neg (nI_ne0 h0 hy), if_neg (nI_ne0 h0 hy), pk_rem hx h0 hy, nI_1]
  intro m
  induction m with
  | zero =>
    intro x y hx hy hm n k hn hk
    have e : y = 0 := by
      have : (2 : Nat) ^ 0 = 1 := rfl
      omega
    rw [e]
    exact z0 x n k (by omega) (by omega)
  | succ m ih =>
    intro x y hx hy hm n k hn hk
    have hp : 2 ^ (m + 1) < 2 ^ 31 := p24 (by omega)
    rcases Nat.eq_zero_or_pos y with e | e
    · rw [e]; exact z0 x n k (by omega) (by omega)
    obtain ⟨n, rfl⟩ : ∃ z, n = z + 1 := ⟨n - 1, by omega⟩
    have hr : x % y < y := Nat.mod_lt _ e
    rw [one x y n k hx e (by omega) (by omega), ← g_rec x y]
    rcases Nat.eq_zero_or_pos (x % y) with e2 | e2
    · rw [e2]; exact z0 y n (k + 1) (by omega) (by omega)
    obtain ⟨n, rfl⟩ : ∃ z, n = z + 1 := ⟨n - 1, by omega⟩
    rw [one y (x % y) n (k + 1) (by omega) e2 (by omega) (by omega), ← g_rec y (x % y)]
    exact ih (x % y) (y % (x % y)) (by omega) (half e e2 hy) (by omega) n (k + 1 + 1) (by omega) (by omega)
theorem div6 {K : Int32 → Option (Int32 × (Nat → Int32))} {x3 x4 x5 : Int32} {sl : Nat → Int32} : ∀ m x y, x < 2 ^ 31 → y < 2 ^ m → m ≤ 30 → ∀ n, 2 * m + 1 < n → f_X6_chance_L128 K x3 x4 x5 sl n (nI x) (nI y) = K (nI (Nat.gcd x y)) := by
  have z0 : ∀ x n, 0 < n → f_X6_chance_L128 K x3 x4 x5 sl n (nI x) (nI 0) = K (nI (Nat.gcd x 0)) := fun x n hn => by
    obtain ⟨n, rfl⟩ : ∃ z, n = z + 1 := ⟨n - 1, by omega⟩
    rw [f_X6_chance_L128, if_pos (by decide), Nat.gcd_zero_right]
  have one : ∀ x y n, x < 2 ^ 31 → 0 < y → y < 2 ^ 31 → f_X6_chance_L128 K x3 x4 x5 sl (n + 1) (nI x) (nI y) = f_X6_chance_L128 K x3 x4 x5 sl n (nI y) (nI (x % y)) := fun x y n hx h0 hy => by
    rw [f_X6_chance_L128, if_neg (nI_nle h0 hy), if_neg (nI_ne0 h0 hy), pk_rem hx h0 hy]
  intro m
  induction m with
  | zero =>
    intro x y hx hy hm n hn
    have e : y = 0 := by
      have : (2 : Nat) ^ 0 = 1 := rfl
      omega
    rw [e]
    exact z0 x n (by omega)
  | succ m ih =>
    intro x y hx hy hm n hn
    have hp : 2 ^ (m + 1) < 2 ^ 31 := p24 (by omega)
    rcases Nat.eq_zero_or_pos y with e | e
    · rw [e]; exact z0 x n (by omega)
    obtain ⟨n, rfl⟩ : ∃ z, n = z + 1 := ⟨n - 1, by omega⟩
    have hr : x % y < y := Nat.mod_lt _ e
    rw [one x y n hx e (by omega), ← g_rec x y]
    rcases Nat.eq_zero_or_pos (x % y) with e2 | e2
    · rw [e2]; exact z0 y n (by omega)
    obtain ⟨n, rfl⟩ : ∃ z, n = z + 1 := ⟨n - 1, by omega⟩
    rw [one y (x % y) n (by omega) e2 (by omega), ← g_rec y (x % y)]
    exact ih (x % y) (y % (x % y)) (by omega) (half e e2 hy) (by omega) n (by omega)
theorem op_chance (sc : Nat → Int32) (ar : Nat → Nat → Int32) (lg : Nat → Int64) (hR : Rel sc ar lg) (y1 : Int32) (y2 : Int32) (y3 : Int32) :
    ∃ (q : Int32) (q' : Int32 × (Nat → Int32)), f_X5_chance (sc 30) (ar 14) (sc 39) (ar 20) y1 y2 y3 = some q ∧ f_X6_chance (sc 46) (sc 49) (ar 24) (ar 28) (ar 34) y1 y2 y3 = some q' ∧ q = q'.1 ∧ Rel sc (uv ar 28 q'.2) lg := by
  obtain ⟨hM, hT, hTx, nD, nA, nS, nN, hD5, hDi, hAs, hSp, hNo, ⟨hMt, nL, nG, nU, hLe, hLo, hUn⟩, hIm⟩ := id hR
  have hMt0 : RMt (nI nD) (ar 14) (ar 34) 0 nD := ⟨rfl, hMt.2⟩
  have hAs0 : RAs (nI nA) (ar 20) (sc 49) (ar 24) nA := ⟨hAs.1, rfl, hAs.2.2⟩
  have h5 := hAs.1
  have fin : ∀ b : Nat → Int32, Rel sc (uv ar 28 b) lg := fun b => ⟨hM, hT, hTx, nD, nA, nS, nN, hD5, hDi, hAs, hSp, hNo, ⟨hMt, nL, nG, nU, hLe, hLo, hUn⟩, hIm⟩
  unfold f_X5_chance f_X6_chance
  rw [hDi, hMt.1, hAs.2.1, hAs.2.2.1, t5_bit, t6_in1]
  rcases ah_or y1 y2 with ⟨h, h6⟩ | ⟨h, h6, a, b, hab, hb, rfl, rfl⟩
  · rw [if_pos h, if_pos h6]
    exact ⟨_, _, rfl, rfl, rfl, fin _⟩
  rw [h, h6, if_neg n10, if_neg n10]
  rcases tst_or (n := 2) (by decide) y3 with t | ⟨t, w, hw, rfl⟩
  · rw [if_pos t, if_pos t]
    exact ⟨_, _, rfl, rfl, rfl, fin _⟩
  have hRR : ∀ p, rmD (ar 14) a b nD p < 2 ^ 31 := fun p => by
    have := rmD_b (mc := ar 14) (a := a) (p := p) hb nD
    omega
  rw [if_neg (tst_ne hw (by decide)), if_neg (tst_ne hw (by decide)), any5 hMt0 hD5 hab hb, Option.bind_some, chance5 hAs0 anN_lt, room6 hMt0 hD5 hab hb, Option.bind_some, chance6 hAs0 hRR (fun p => an_room)]
  have hL := chL_b (ac := ar 20) (m := anN (ar 14) a b nD) nA
  have hW := chW_b (ac := ar 20) (m := anN (ar 14) a b nD) nA
  have h10 : 10 ^ nA ≤ 10 ^ 5 := Nat.pow_le_pow_right (by decide) h5
  generalize chL (ar 20) (anN (ar 14) a b nD) nA = L at hL hW
  generalize chW (ar 20) (anN (ar 14) a b nD) nA = W at hW
  have hL5 : L ≤ 100000 := Nat.le_trans hL.1 h10
  have hg : 0 < Nat.gcd (L - W) L := Nat.gcd_pos_of_pos_right _ hL.2
  have hg2 : Nat.gcd (L - W) L ≤ L := Nat.gcd_le_right _ hL.2
  have d5 : f_X5_commonDivisor (nI (L - W)) (nI L) = some (nI (Nat.gcd (L - W) L)) := div5 17 (L - W) L (by omega) (by omega) (by decide) FU 0 (by decide) (by decide)
  have d6 : f_X6_chance_L128 (f_X6_chance_X151 (nI w) (nI W) (nI L) (rmE (ar 28) (rmD (ar 14) a b nD))) (nI w) (nI W) (nI L) (rmE (ar 28) (rmD (ar 14) a b nD)) FU (nI (L - W)) (nI L) = f_X6_chance_X151 (nI w) (nI W) (nI L) (rmE (ar 28) (rmD (ar 14) a b nD)) (nI (Nat.gcd (L - W) L)) := div6 17 (L - W) L (by omega) (by omega) (by decide) FU (by decide)
  rw [f_X5_chance_X104, f_X5_inLeastTerms, f_X6_chance_X117, pk_sub hW, d5, d6, Option.bind_some, f_X6_chance_X151, pk_sub hW, f_X5_inLeastTerms_J15, f_X5_inLeastTerms_J15, f_X6_chance_J165, f_X6_chance_J165, if_neg (nI_nle hg (by omega)), if_neg (nI_nle hg (by omega)), if_neg (nI_ne0 hg (by omega)), if_neg (nI_ne0 hg (by omega))]
  by_cases q : nI w = 0
  · rw [if_pos q, if_pos q]
    exact ⟨_, _, rfl, rfl, rfl, fin _⟩
  · rw [if_neg q, if_neg q]
    exact ⟨_, _, rfl, rfl, rfl, fin _⟩
