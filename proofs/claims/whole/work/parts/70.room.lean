/-! hours of dishes for each place; askers -/
def rmE (sl : Nat → Int32) (f : Nat → Nat) : Nat → Int32 := fun p => if p < 8 then nI (f p) else sl p
def rmU (f : Nat → Nat) (k : Nat) : Nat → Nat := fun q => if q = k then f q + 1 else f q
theorem rmE_in {sl : Nat → Int32} {f : Nat → Nat} {p : Nat} (h : p < 8) : rmE sl f p = nI (f p) := if_pos h
theorem rmE_upd {sl : Nat → Int32} {f : Nat → Nat} {k : Nat} (hk : k < 8) : upd (rmE sl f) k (rmE sl f k + 1) = rmE sl (rmU f k) := by
  funext p
  by_cases h : p = k
  · subst h
    rw [pk_us, rmE_in hk, rmE_in hk, nI_1]
    unfold rmU
    rw [if_pos rfl]
  · rw [pk_un h]
    unfold rmE rmU
    rw [if_neg h]
def rmH (v a : Nat) (f : Nat → Nat) : Nat → (Nat → Nat)
  | 0 => f
  | i + 1 => if a ≤ i then rmU (rmH v a f i) (lk v i) else rmH v a f i
theorem rmH_s {v a i : Nat} {f : Nat → Nat} (h : a ≤ i) : rmH v a f (i + 1) = rmU (rmH v a f i) (lk v i) := by rw [rmH, if_pos h]
theorem rmH_0 {v a : Nat} {f : Nat → Nat} : ∀ i, i ≤ a → rmH v a f i = f := by
  intro i
  induction i with
  | zero => intro _; rfl
  | succ i ih => intro h; rw [rmH, if_neg (by omega), ih (by omega)]
def rmD (mc : Nat → Int32) (a b : Nat) : Nat → (Nat → Nat)
  | 0 => fun _ => 0
  | d + 1 => rmH (mV mc d) a (rmD mc a b d) (b + 1)
/-- the rows' beginning -/
def cz (sl : Nat → Int32) (i : Nat) : Nat → Int32 := fun p => if p < i then nI 0 else sl p
theorem cz_s {sl : Nat → Int32} {i : Nat} : upd (cz sl i) i 0 = cz sl (i + 1) := by
  funext p
  by_cases h : p = i
  · subst h
    rw [pk_us]
    unfold cz
    rw [if_pos (by omega)]
    rfl
  · rw [pk_un h]
    unfold cz
    by_cases h1 : p < i
    · rw [if_pos h1, if_pos (by omega)]
    · rw [if_neg h1, if_neg (by omega)]
theorem cz_0 (sl : Nat → Int32) : cz sl 0 = sl := by
  funext p
  exact if_neg (Nat.not_lt_zero p)
theorem cz_8 (sl : Nat → Int32) : cz sl 8 = rmE sl (fun _ => 0) := rfl
theorem room5h {K : (Nat → Int32) → Option (Nat → Int32)} {mc st sl : Nat → Int32} {f : Nat → Nat} {nD d a b : Nat} (hMt : RMt (nI nD) mc st 0 nD) (hD : nD ≤ 5) (hd : d < nD) (hab : a ≤ b) (hb : b < 24) : f_X5_countSlots_L42 K (nI a) (nI b) (nI d) (nI nD) mc FU (nI a) (rmE sl f) = K (rmE sl (rmH (mV mc d) a f (b + 1))) := by
  have hend : ∀ n, f_X5_countSlots_L42 K (nI a) (nI b) (nI d) (nI nD) mc (n + 1) (nI (b + 1)) (rmE sl (rmH (mV mc d) a f (b + 1))) = K (rmE sl (rmH (mV mc d) a f (b + 1))) := fun n => by
    rw [f_X5_countSlots_L42, if_pos (nI_lt (by omega) (by omega))]
  have hst : ∀ n i, a ≤ i → i < b + 1 → f_X5_countSlots_L42 K (nI a) (nI b) (nI d) (nI nD) mc (n + 1) (nI i) (rmE sl (rmH (mV mc d) a f i)) = f_X5_countSlots_L42 K (nI a) (nI b) (nI d) (nI nD) mc n (nI (i + 1)) (rmE sl (rmH (mV mc d) a f (i + 1))) := fun n i ha hi => by
    have hl := lk_lt (mV mc d) i
    rw [f_X5_countSlots_L42, if_neg (nI_nlt (by omega) (by omega)), if_neg (show ¬ (24 : Int32) ≤ nI i from nI_ge (b := 24) (by omega) (by decide)), e_placeV hMt hD hd (by omega), e_at hl (by decide), e_put hl (by decide), rmE_upd hl, nI_1, rmH_s ha]
  have h := lp (fun n i => f_X5_countSlots_L42 K (nI a) (nI b) (nI d) (nI nD) mc n (nI i) (rmE sl (rmH (mV mc d) a f i))) (b + 1) hend a hst (by omega) (by omega)
  rw [rmH_0 a (Nat.le_refl a)] at h
  exact h
theorem room5 {mc st sl : Nat → Int32} {nD a b : Nat} (hMt : RMt (nI nD) mc st 0 nD) (hD : nD ≤ 5) (hab : a ≤ b) (hb : b < 24) : f_X5_countSlots (nI nD) mc sl (nI a) (nI b) = some (rmE sl (rmD mc a b nD)) := by
  unfold f_X5_countSlots
  have hend : ∀ n, f_X5_countSlots_L25 (nI a) (nI b) (nI nD) mc (n + 1) (nI nD) (rmE sl (rmD mc a b nD)) = some (rmE sl (rmD mc a b nD)) := fun n => by
    rw [f_X5_countSlots_L25, if_pos (nI_le (Nat.le_refl _) (by omega))]
  have hst : ∀ n i, 0 ≤ i → i < nD → f_X5_countSlots_L25 (nI a) (nI b) (nI nD) mc (n + 1) (nI i) (rmE sl (rmD mc a b i)) = f_X5_countSlots_L25 (nI a) (nI b) (nI nD) mc n (nI (i + 1)) (rmE sl (rmD mc a b (i + 1))) := fun n i _ hi => by
    rw [f_X5_countSlots_L25, if_neg (nI_ge hi (by omega)), room5h hMt hD hi hab hb, f_X5_countSlots_X93, nI_1]
    rfl
  have h := lp (fun n i => f_X5_countSlots_L25 (nI a) (nI b) (nI nD) mc n (nI i) (rmE sl (rmD mc a b i))) nD hend 0 hst (Nat.zero_le _) (by omega)
  have hend2 : ∀ n, f_X5_countSlots_L2 (f_X5_countSlots_X23 (nI a) (nI b) (nI nD) mc) (nI a) (nI b) (nI nD) mc (n + 1) (nI 8) (cz sl 8) = some (rmE sl (rmD mc a b nD)) := fun n => by
    rw [f_X5_countSlots_L2, if_pos (by decide), f_X5_countSlots_X23, cz_8]
    exact h
  have hst2 : ∀ n i, 0 ≤ i → i < 8 → f_X5_countSlots_L2 (f_X5_countSlots_X23 (nI a) (nI b) (nI nD) mc) (nI a) (nI b) (nI nD) mc (n + 1) (nI i) (cz sl i) = f_X5_countSlots_L2 (f_X5_countSlots_X23 (nI a) (nI b) (nI nD) mc) (nI a) (nI b) (nI nD) mc n (nI (i + 1)) (cz sl (i + 1)) := fun n i _ hi => by
    rw [f_X5_countSlots_L2, if_neg (show ¬ (8 : Int32) ≤ nI i from nI_ge (b := 8) hi (by decide)), e_put hi (by decide), cz_s, nI_1]
  have h2 := lp (fun n i => f_X5_countSlots_L2 (f_X5_countSlots_X23 (nI a) (nI b) (nI nD) mc) (nI a) (nI b) (nI nD) mc n (nI i) (cz sl i)) 8 hend2 0 hst2 (by decide) (by decide)
  rw [cz_0] at h2
  exact h2
theorem room6h {K : (Nat → Int32) → Option (Nat → Int32)} {mc st sl : Nat → Int32} {f : Nat → Nat} {nD d a b : Nat} (hMt : RMt (nI nD) mc st 0 nD) (hD : nD ≤ 5) (hd : d < nD) (hab : a ≤ b) (hb : b < 24) : f_X6_findRoom_L34 K (nI a) (nI b) (nI d) (nI nD) st FU (nI a) (rmE sl f) = K (rmE sl (rmH (mV mc d) a f (b + 1))) := by
  have hend : ∀ n, f_X6_findRoom_L34 K (nI a) (nI b) (nI d) (nI nD) st (n + 1) (nI (b + 1)) (rmE sl (rmH (mV mc d) a f (b + 1))) = K (rmE sl (rmH (mV mc d) a f (b + 1))) := fun n => by
    rw [f_X6_findRoom_L34, if_pos (nI_lt (by omega) (by omega))]
  have hst : ∀ n i, a ≤ i → i < b + 1 → f_X6_findRoom_L34 K (nI a) (nI b) (nI d) (nI nD) st (n + 1) (nI i) (rmE sl (rmH (mV mc d) a f i)) = f_X6_findRoom_L34 K (nI a) (nI b) (nI d) (nI nD) st n (nI (i + 1)) (rmE sl (rmH (mV mc d) a f (i + 1))) := fun n i ha hi => by
    have hl := lk_lt (mV mc d) i
    rw [f_X6_findRoom_L34, if_neg (nI_nlt (by omega) (by omega)), e_looksV hMt hD hd (by omega), Option.bind_some, if_neg (in_row hl (by decide)), if_neg (in_row hl (by decide)), nI_clamp (n := lk (mV mc d) i) (by omega), rmE_upd hl, nI_1, rmH_s ha]
  have h := lp (fun n i => f_X6_findRoom_L34 K (nI a) (nI b) (nI d) (nI nD) st n (nI i) (rmE sl (rmH (mV mc d) a f i))) (b + 1) hend a hst (by omega) (by omega)
  rw [rmH_0 a (Nat.le_refl a)] at h
  exact h
theorem room6 {mc st sl : Nat → Int32} {nD a b : Nat} (hMt : RMt (nI nD) mc st 0 nD) (hD : nD ≤ 5) (hab : a ≤ b) (hb : b < 24) : f_X6_findRoom (nI nD) sl st (nI a) (nI b) = some (rmE sl (rmD mc a b nD)) := by
  unfold f_X6_findRoom
  have hend : ∀ n, f_X6_findRoom_L23 (nI a) (nI b) (nI nD) st (n + 1) (nI nD) (rmE sl (rmD mc a b nD)) = some (rmE sl (rmD mc a b nD)) := fun n => by
    rw [f_X6_findRoom_L23, if_pos (nI_le (Nat.le_refl _) (by omega))]
  have hst : ∀ n i, 0 ≤ i → i < nD → f_X6_findRoom_L23 (nI a) (nI b) (nI nD) st (n + 1) (nI i) (rmE sl (rmD mc a b i)) = f_X6_findRoom_L23 (nI a) (nI b) (nI nD) st n (nI (i + 1)) (rmE sl (rmD mc a b (i + 1))) := fun n i _ hi => by
    rw [f_X6_findRoom_L23, if_neg (nI_ge hi (by omega)), room6h hMt hD hi hab hb, f_X6_findRoom_X62, nI_1]
    rfl
  have h := lp (fun n i => f_X6_findRoom_L23 (nI a) (nI b) (nI nD) st n (nI i) (rmE sl (rmD mc a b i))) nD hend 0 hst (Nat.zero_le _) (by omega)
  have hend2 : ∀ n, f_X6_findRoom_L2 (f_X6_findRoom_X21 (nI a) (nI b) (nI nD) st) (nI a) (nI b) (nI nD) st (n + 1) (nI 8) (cz sl 8) = some (rmE sl (rmD mc a b nD)) := fun n => by
    rw [f_X6_findRoom_L2, if_pos (by decide), f_X6_findRoom_X21, cz_8]
    exact h
  have hst2 : ∀ n i, 0 ≤ i → i < 8 → f_X6_findRoom_L2 (f_X6_findRoom_X21 (nI a) (nI b) (nI nD) st) (nI a) (nI b) (nI nD) st (n + 1) (nI i) (cz sl i) = f_X6_findRoom_L2 (f_X6_findRoom_X21 (nI a) (nI b) (nI nD) st) (nI a) (nI b) (nI nD) st n (nI (i + 1)) (cz sl (i + 1)) := fun n i _ hi => by
    rw [f_X6_findRoom_L2, if_neg (show ¬ (8 : Int32) ≤ nI i from nI_ge (b := 8) hi (by decide)), if_neg (in_row hi (by decide)), nI_clamp (n := i) (by omega), cz_s, nI_1]
  have h2 := lp (fun n i => f_X6_findRoom_L2 (f_X6_findRoom_X21 (nI a) (nI b) (nI nD) st) (nI a) (nI b) (nI nD) st n (nI i) (cz sl i)) 8 hend2 0 hst2 (by decide) (by decide)
  rw [cz_0] at h2
  exact h2
theorem rmH_b {v a p : Nat} {f : Nat → Nat} : ∀ i, rmH v a f i p ≤ f p + i := by
  intro i
  induction i with
  | zero => exact Nat.le_refl _
  | succ i ih =>
    rw [rmH]
    by_cases h : a ≤ i
    · rw [if_pos h]
      unfold rmU
      by_cases q : p = lk v i
      · rw [if_pos q]; omega
      · rw [if_neg q]; omega
    · rw [if_neg h]; omega
theorem rmD_b {mc : Nat → Int32} {a b p : Nat} (hb : b < 24) : ∀ d, rmD mc a b d p ≤ 24 * d := by
  intro d
  induction d with
  | zero => exact Nat.le_refl _
  | succ d ih =>
    have h := rmH_b (v := mV mc d) (a := a) (p := p) (f := rmD mc a b d) (b + 1)
    rw [rmD]
    omega
theorem rmH_p {v a p : Nat} {f : Nat → Nat} : ∀ i, 0 < rmH v a f i p ↔ 0 < f p ∨ ∃ h, h < i ∧ a ≤ h ∧ lk v h = p := by
  intro i
  induction i with
  | zero =>
    constructor
    · intro h; exact Or.inl h
    · rintro (h | ⟨j, hj, -⟩)
      · exact h
      · exact absurd hj (Nat.not_lt_zero j)
  | succ i ih =>
    rw [rmH]
    by_cases h : a ≤ i
    · rw [if_pos h]
      unfold rmU
      by_cases q : p = lk v i
      · rw [if_pos q]
        exact ⟨fun _ => Or.inr ⟨i, by omega, h, q.symm⟩, fun _ => Nat.succ_pos _⟩
      · rw [if_neg q, ih]
        constructor
        · rintro (k | ⟨j, hj, k⟩)
          · exact Or.inl k
          · exact Or.inr ⟨j, by omega, k⟩
        · rintro (k | ⟨j, hj, k, k2⟩)
          · exact Or.inl k
          · refine Or.inr ⟨j, ?_, k, k2⟩
            by_cases e : j = i
            · rw [e] at k2; exact absurd k2.symm q
            · omega
    · rw [if_neg h, ih]
      constructor
      · rintro (k | ⟨j, hj, k⟩)
        · exact Or.inl k
        · exact Or.inr ⟨j, by omega, k⟩
      · rintro (k | ⟨j, hj, k, k2⟩)
        · exact Or.inl k
        · exact Or.inr ⟨j, by omega, k, k2⟩
theorem rmD_p {mc : Nat → Int32} {a b p : Nat} : ∀ d, 0 < rmD mc a b d p ↔ ∃ e, e < d ∧ ∃ h, h < b + 1 ∧ a ≤ h ∧ lk (mV mc e) h = p := by
  intro d
  induction d with
  | zero =>
    constructor
    · intro h; exact absurd h (Nat.lt_irrefl 0)
    · rintro ⟨j, hj, -⟩; exact absurd hj (Nat.not_lt_zero j)
  | succ d ih =>
    rw [rmD, rmH_p, ih]
    constructor
    · rintro (⟨e, he, k⟩ | k)
      · exact ⟨e, by omega, k⟩
      · exact ⟨d, by omega, k⟩
    · rintro ⟨e, he, k⟩
      by_cases q : e = d
      · rw [q] at k; exact Or.inr k
      · exact Or.inl ⟨e, by omega, k⟩
/-! askers -/
def aP (ac : Nat → Int32) (i : Nat) : Nat := tN (ac (4 * i))
def aS (ac : Nat → Int32) (i : Nat) : Nat := tN (ac (4 * i + 1))
theorem af0 {ac ak : Nat → Int32} {n6 : Int32} {nA i : Nat} (hA : RAs (nI nA) ac n6 ak nA) (hi : i < nA) : ac (4 * i) = nI (aP ac i) ∧ aP ac i < 8 ∧ ak (2 * i) = nI (aP ac i) := by
  obtain ⟨⟨a, b⟩, -⟩ := hA.2.2.2 i hi
  rw [← a] at b
  obtain ⟨e, l⟩ := tN_in b (by decide)
  exact ⟨e, l, a.symm.trans e⟩
theorem af1 {ac ak : Nat → Int32} {n6 : Int32} {nA i : Nat} (hA : RAs (nI nA) ac n6 ak nA) (hi : i < nA) : ac (4 * i + 1) = nI (aS ac i) ∧ aS ac i < 10 ∧ 0 < aS ac i ∧ ak (2 * i + 1) = nI (aS ac i) := by
  obtain ⟨-, a, b, z⟩ := hA.2.2.2 i hi
  rw [← a] at b z
  obtain ⟨e, l⟩ := tN_in b (by decide)
  refine ⟨e, l, ?_, a.symm.trans e⟩
  rcases Nat.eq_zero_or_pos (aS ac i) with q | q
  · have e2 : ac (4 * i + 1) = nI (aS ac i) := e
    rw [q] at e2
    exact absurd e2 z
  · exact q
def suN (ac : Nat → Int32) (s i : Nat) : Nat := if s.testBit i = true then aS ac i else 0
theorem sure5 {ac ak : Nat → Int32} {n6 : Int32} {nA s : Nat} (hA : RAs (nI nA) ac n6 ak nA) (hs : s < 2 ^ 31) : f_X5_sureOf (nI nA) ac (nI s) = some (nI (sumN (suN ac s) nA)) := by
  have h5 := hA.1
  unfold f_X5_sureOf
  have hend : ∀ n, f_X5_sureOf_L4 (nI s) (nI nA) ac (n + 1) (nI (sumN (suN ac s) nA)) (nI nA) = some (nI (sumN (suN ac s) nA)) := fun n => by
    rw [f_X5_sureOf_L4, if_pos (nI_le (Nat.le_refl _) (by omega))]
  have hst : ∀ n i, 0 ≤ i → i < nA → f_X5_sureOf_L4 (nI s) (nI nA) ac (n + 1) (nI (sumN (suN ac s) i)) (nI i) = f_X5_sureOf_L4 (nI s) (nI nA) ac n (nI (sumN (suN ac s) (i + 1))) (nI (i + 1)) := fun n i _ hi => by
    rw [f_X5_sureOf_L4, if_neg (nI_ge hi (by omega)), e_bit5 hs (by omega), if_bI, sumN]
    by_cases q : s.testBit i = true
    · have z : suN ac s i = aS ac i := if_pos q
      rw [if_pos q, e_num1 hi (by omega), (af1 hA hi).1, nI_add, f_X5_sureOf_J41, nI_1, z]
    · have z : suN ac s i = 0 := if_neg q
      rw [if_neg q, f_X5_sureOf_J41, nI_1, z]
      rfl
  exact lp (fun n i => f_X5_sureOf_L4 (nI s) (nI nA) ac n (nI (sumN (suN ac s) i)) (nI i)) nA hend 0 hst (Nat.zero_le _) (by omega)
theorem sure6 {ac ak : Nat → Int32} {n6 : Int32} {nA s : Nat} (hA : RAs (nI nA) ac n6 ak nA) (hs : s < 2 ^ 31) : f_X6_sureOf (nI nA) ak (nI s) = some (nI (sumN (suN ac s) nA)) := by
  have h5 := hA.1
  unfold f_X6_sureOf
  have hend : ∀ n, f_X6_sureOf_L4 (nI s) (nI nA) ak (n + 1) (nI (sumN (suN ac s) nA)) (nI nA) = some (nI (sumN (suN ac s) nA)) := fun n => by
    rw [f_X6_sureOf_L4, if_pos (nI_le (Nat.le_refl _) (by omega))]
  have hst : ∀ n i, 0 ≤ i → i < nA → f_X6_sureOf_L4 (nI s) (nI nA) ak (n + 1) (nI (sumN (suN ac s) i)) (nI i) = f_X6_sureOf_L4 (nI s) (nI nA) ak n (nI (sumN (suN ac s) (i + 1))) (nI (i + 1)) := fun n i _ hi => by
    have i1 : (2 : Int32) * nI i + 1 = nI (2 * i + 1) := by rw [show (2 : Int32) = nI 2 from rfl, pk_mul, nI_1]
    rw [f_X6_sureOf_L4, if_neg (nI_ge hi (by omega)), e_bit6 hs (by omega), if_bI, sumN]
    by_cases q : s.testBit i = true
    · have z : suN ac s i = aS ac i := if_pos q
      rw [if_pos q, i1, if_neg (in_row (a := 2 * i + 1) (by omega) (by decide)), nI_clamp (n := 2 * i + 1) (by omega), (af1 hA hi).2.2.2, f_X6_sureOf_J35, nI_add, nI_1, z]
    · have z : suN ac s i = 0 := if_neg q
      rw [if_neg q, f_X6_sureOf_J35, nI_1, z]
      exact congrArg (fun w => f_X6_sureOf_L4 (nI s) (nI nA) ak n w (nI (i + 1))) (nI_add _ 0)
  exact lp (fun n i => f_X6_sureOf_L4 (nI s) (nI nA) ak n (nI (sumN (suN ac s) i)) (nI i)) nA hend 0 hst (Nat.zero_le _) (by omega)
/-! whether there is room for a set of askers -/
def prC (ac : Nat → Int32) (s p i : Nat) : Bool := s.testBit i && decide (aP ac i = p)
def haB (ac : Nat → Int32) (R : Nat → Nat) (nA s p : Nat) : Bool := decide (cnt (prC ac s p) nA ≤ R p)
theorem have5in {K : Int32 → Option Int32} {ac ak sl : Nat → Int32} {n6 : Int32} {nA s p : Nat} (hA : RAs (nI nA) ac n6 ak nA) (hs : s < 2 ^ 31) (hp : p < 8) : f_X5_haveSlots_L13 K (nI s) (nI p) sl (nI nA) ac FU 0 0 = K (nI (cnt (prC ac s p) nA)) := by
  have h5 := hA.1
  have hend : ∀ n, f_X5_haveSlots_L13 K (nI s) (nI p) sl (nI nA) ac (n + 1) (nI (cnt (prC ac s p) nA)) (nI nA) = K (nI (cnt (prC ac s p) nA)) := fun n => by
    rw [f_X5_haveSlots_L13, if_pos (nI_le (Nat.le_refl _) (by omega))]
  have hst : ∀ n i, 0 ≤ i → i < nA → f_X5_haveSlots_L13 K (nI s) (nI p) sl (nI nA) ac (n + 1) (nI (cnt (prC ac s p) i)) (nI i) = f_X5_haveSlots_L13 K (nI s) (nI p) sl (nI nA) ac n (nI (cnt (prC ac s p) (i + 1))) (nI (i + 1)) := fun n i _ hi => by
    have h0 := af0 hA hi
    rw [f_X5_haveSlots_L13, if_neg (nI_ge hi (by omega)), e_bit5 hs (by omega), if_bI, cnt]
    by_cases q : s.testBit i = true
    · rw [if_pos q, e_num0 hi (by omega), h0.1]
      by_cases r : aP ac i = p
      · have z : prC ac s p i = true := by unfold prC; rw [q, decide_eq_true r]; rfl
        rw [if_pos (by rw [r]), f_X5_haveSlots_J57, nI_1, nI_1, z, if_pos rfl]
      · have z : prC ac s p i = false := by unfold prC; rw [decide_eq_false r, Bool.and_false]
        rw [if_neg (fun w => r ((nI_eq (by omega) (by omega)).mp w)), f_X5_haveSlots_J57, nI_1, z, if_neg (by decide)]
        rfl
    · have z : ¬ prC ac s p i = true := fun w => by unfold prC at w; rw [Bool.and_eq_true] at w; exact q w.1
      rw [if_neg q, f_X5_haveSlots_J57, nI_1, if_neg z]
      rfl
  exact lp (fun n i => f_X5_haveSlots_L13 K (nI s) (nI p) sl (nI nA) ac n (nI (cnt (prC ac s p) i)) (nI i)) nA hend 0 hst (Nat.zero_le _) (by omega)
theorem have5 {ac ak sl : Nat → Int32} {n6 : Int32} {nA s : Nat} {R : Nat → Nat} (hA : RAs (nI nA) ac n6 ak nA) (hs : s < 2 ^ 31) (hR : ∀ p, R p < 2 ^ 31) : f_X5_haveSlots (rmE sl R) (nI nA) ac (nI s) = some (bI (allB (haB ac R nA s) 8)) := by
  have h5 := hA.1
  unfold f_X5_haveSlots
  have step : ∀ n i, i < 8 → f_X5_haveSlots_L2 (nI s) (rmE sl R) (nI nA) ac (n + 1) (nI i) = if haB ac R nA s i = true then f_X5_haveSlots_L2 (nI s) (rmE sl R) (nI nA) ac n (nI (i + 1)) else some 0 := fun n i hi => by
    have hc := cnt_le (prC ac s i) nA
    have hr := hR i
    rw [f_X5_haveSlots_L2, if_neg (show ¬ (8 : Int32) ≤ nI i from nI_ge (b := 8) hi (by decide)), have5in hA hs hi, f_X5_haveSlots_X63, e_at hi (by decide), rmE_in hi, nI_1]
    by_cases q : cnt (prC ac s i) nA ≤ R i
    · rw [if_pos (nI_le q hr), if_pos (show haB ac R nA s i = true from decide_eq_true q)]
    · rw [if_neg (nI_ge (by omega) (by omega)), if_neg (show ¬ haB ac R nA s i = true by unfold haB; rw [decide_eq_false q]; decide)]
  have h := lpE (K0 := some 1) (K1 := some 0) (fun n i => f_X5_haveSlots_L2 (nI s) (rmE sl R) (nI nA) ac n (nI i)) (fun i => !(haB ac R nA s i)) 8 (fun n => by
      show f_X5_haveSlots_L2 (nI s) (rmE sl R) (nI nA) ac (n + 1) (nI 8) = some 1
      rw [f_X5_haveSlots_L2, if_pos (by decide)]) (fun n i hi hP => by
      show f_X5_haveSlots_L2 (nI s) (rmE sl R) (nI nA) ac (n + 1) (nI i) = some 0
      have hP' : (!(haB ac R nA s i)) = true := hP
      rw [step n i hi]
      cases q : haB ac R nA s i with
      | true => rw [q] at hP'; exact absurd hP' (by decide)
      | false => rfl) (fun n i hi hP => by
      show f_X5_haveSlots_L2 (nI s) (rmE sl R) (nI nA) ac (n + 1) (nI i) = f_X5_haveSlots_L2 (nI s) (rmE sl R) (nI nA) ac n (nI (i + 1))
      have hP' : (!(haB ac R nA s i)) = false := hP
      rw [step n i hi]
      cases q : haB ac R nA s i with
      | true => rfl
      | false => rw [q] at hP'; exact absurd hP' (by decide)) (by decide)
  refine Eq.trans (b := if anyB (fun i => !(haB ac R nA s i)) 8 = true then some 0 else some 1) h ?_
  rw [any_not]
  cases allB (haB ac R nA s) 8 <;> rfl
theorem have6in {K : Int32 → Option Int32} {ac ak sl : Nat → Int32} {n6 x2 : Int32} {nA s p : Nat} (hA : RAs (nI nA) ac n6 ak nA) (hs : s < 2 ^ 31) (hp : p < 8) : f_X6_isRoomFor_L16 K (nI s) x2 (nI p) (nI nA) ak sl FU 0 0 = K (nI (cnt (prC ac s p) nA)) := by
  have h5 := hA.1
  have hend : ∀ n, f_X6_isRoomFor_L16 K (nI s) x2 (nI p) (nI nA) ak sl (n + 1) (nI (cnt (prC ac s p) nA)) (nI nA) = K (nI (cnt (prC ac s p) nA)) := fun n => by
    rw [f_X6_isRoomFor_L16, if_pos (nI_le (Nat.le_refl _) (by omega))]
  have hst : ∀ n i, 0 ≤ i → i < nA → f_X6_isRoomFor_L16 K (nI s) x2 (nI p) (nI nA) ak sl (n + 1) (nI (cnt (prC ac s p) i)) (nI i) = f_X6_isRoomFor_L16 K (nI s) x2 (nI p) (nI nA) ak sl n (nI (cnt (prC ac s p) (i + 1))) (nI (i + 1)) := fun n i _ hi => by
    have h0 := af0 hA hi
    have i0 : (2 : Int32) * nI i = nI (2 * i) := pk_mul 2 i
    have a0 : ∀ k : Nat, nI k + 0 = nI k := fun k => nI_add k 0
    rw [f_X6_isRoomFor_L16, if_neg (nI_ge hi (by omega)), e_bit6 hs (by omega), if_bI, cnt]
    by_cases q : s.testBit i = true
    · rw [if_pos q, i0, if_neg (in_row (a := 2 * i) (by omega) (by decide)), nI_clamp (n := 2 * i) (by omega), h0.2.2]
      by_cases r : aP ac i = p
      · have z : prC ac s p i = true := by unfold prC; rw [q, decide_eq_true r]; rfl
        rw [if_pos (by rw [r]), f_X6_isRoomFor_J54, nI_1, nI_1, z, if_pos rfl]
      · have z : prC ac s p i = false := by unfold prC; rw [decide_eq_false r, Bool.and_false]
        rw [if_neg (fun w => r ((nI_eq (by omega) (by omega)).mp w)), f_X6_isRoomFor_J54, nI_1, a0, z, if_neg (by decide)]
        rfl
    · have z : ¬ prC ac s p i = true := fun w => by unfold prC at w; rw [Bool.and_eq_true] at w; exact q w.1
      rw [if_neg q, f_X6_isRoomFor_J54, nI_1, a0, if_neg z]
      rfl
  exact lp (fun n i => f_X6_isRoomFor_L16 K (nI s) x2 (nI p) (nI nA) ak sl n (nI (cnt (prC ac s p) i)) (nI i)) nA hend 0 hst (Nat.zero_le _) (by omega)
theorem have6 {ac ak sl : Nat → Int32} {n6 : Int32} {nA s : Nat} {R : Nat → Nat} (hA : RAs (nI nA) ac n6 ak nA) (hs : s < 2 ^ 31) (hR : ∀ p, R p < 2 ^ 31) : f_X6_isRoomFor (nI nA) ak (rmE sl R) (nI s) = some (bI (allB (haB ac R nA s) 8)) := by
  have h5 := hA.1
  unfold f_X6_isRoomFor
  have hend : ∀ n, f_X6_isRoomFor_L4 (nI s) (nI nA) ak (rmE sl R) (n + 1) (bI (allB (haB ac R nA s) 8)) (nI 8) = some (bI (allB (haB ac R nA s) 8)) := fun n => by
    rw [f_X6_isRoomFor_L4, if_pos (by decide), if_pos (bI_or _)]
  have hst : ∀ n i, 0 ≤ i → i < 8 → f_X6_isRoomFor_L4 (nI s) (nI nA) ak (rmE sl R) (n + 1) (bI (allB (haB ac R nA s) i)) (nI i) = f_X6_isRoomFor_L4 (nI s) (nI nA) ak (rmE sl R) n (bI (allB (haB ac R nA s) (i + 1))) (nI (i + 1)) := fun n i _ hi => by
    have hc := cnt_le (prC ac s i) nA
    have hr := hR i
    rw [f_X6_isRoomFor_L4, if_neg (show ¬ (8 : Int32) ≤ nI i from nI_ge (b := 8) hi (by decide)), have6in hA hs hi, f_X6_isRoomFor_X63, if_bI, allB]
    by_cases ha : allB (haB ac R nA s) i = true
    · rw [if_pos ha, if_neg (in_row hi (by decide)), nI_clamp (n := i) (by omega), rmE_in hi, ha, Bool.true_and]
      by_cases q : cnt (prC ac s i) nA ≤ R i
      · have z : haB ac R nA s i = true := decide_eq_true q
        rw [if_neg (nI_nlt q (by omega)), f_X6_isRoomFor_J83, nI_1, z]
        rfl
      · have z : haB ac R nA s i = false := decide_eq_false q
        rw [if_pos (nI_lt (by omega) (by omega)), f_X6_isRoomFor_J83, nI_1, z]
        rfl
    · have hf : allB (haB ac R nA s) i = false := by cases q : allB (haB ac R nA s) i with | true => exact absurd q ha | false => rfl
      rw [if_neg ha, hf, Bool.false_and, f_X6_isRoomFor_J83, nI_1]
      rfl
  exact lp (fun n i => f_X6_isRoomFor_L4 (nI s) (nI nA) ak (rmE sl R) n (bI (allB (haB ac R nA s) i)) (nI i)) 8 hend 0 hst (by decide) (by decide)
theorem ah_or (x y : Int32) : (f_X5_areHours x y = 0 ∧ f_X6_areHours x y = 0) ∨ (f_X5_areHours x y = 1 ∧ f_X6_areHours x y = 1 ∧ ∃ a b, a ≤ b ∧ b < 24 ∧ x = nI a ∧ y = nI b) := by
  unfold f_X5_areHours f_X6_areHours
  rw [t5_hour, t6_hour, t5_hour, t6_hour]
  rcases tst_or (n := 24) (by decide) x with h | ⟨h, a, ha, rfl⟩
  · rw [if_pos h]; exact Or.inl ⟨rfl, rfl⟩
  rw [if_neg (tst_ne ha (by decide))]
  rcases tst_or (n := 24) (by decide) y with h | ⟨h, b, hb, rfl⟩
  · rw [if_pos h]; exact Or.inl ⟨rfl, rfl⟩
  rw [if_neg (tst_ne hb (by decide))]
  by_cases q : b < a
  · rw [if_pos (nI_lt q (by omega))]; exact Or.inl ⟨rfl, rfl⟩
  · rw [if_neg (nI_nlt (by omega) (by omega))]; exact Or.inr ⟨rfl, rfl, a, b, by omega, hb, rfl, rfl⟩
