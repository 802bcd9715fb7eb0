/-! apart -/
def bcI (m : Nat) : Int32 := f_J6_bitCount_0f7a4 (nI m)
theorem e_bits : ∀ m, m < 256 → f_X6_bits (nI m) = some (f_J6_bitCount_0f7a4 (nI m)) := by decide +kernel
def plE (mc po : Nat → Int32) (a b i : Nat) : Nat → Int32 := fun d => if d < i then nI (seenN (mV mc d) a (b + 1)) else po d
theorem plE_s {mc po : Nat → Int32} {a b i : Nat} : upd (plE mc po a b i) i (nI (seenN (mV mc i) a (b + 1))) = plE mc po a b (i + 1) := by
  funext p
  by_cases h : p = i
  · subst h
    rw [pk_us]
    unfold plE
    rw [if_pos (by omega)]
  · rw [pk_un h]
    unfold plE
    by_cases h1 : p < i
    · rw [if_pos h1, if_pos (by omega)]
    · rw [if_neg h1, if_neg (by omega)]
theorem plE_0 {mc po : Nat → Int32} {a b : Nat} : plE mc po a b 0 = po := by
  funext p
  exact if_neg (Nat.not_lt_zero p)
theorem plE_in {mc po : Nat → Int32} {a b i d : Nat} (h : d < i) : plE mc po a b i d = nI (seenN (mV mc d) a (b + 1)) := if_pos h
def apN (mc : Nat → Int32) (a b s : Nat) : Nat → Nat := orN (fun d => if s.testBit d = true then seenN (mV mc d) a (b + 1) else 0)
theorem apN_lt {mc : Nat → Int32} {a b s n : Nat} : apN mc a b s n < 2 ^ 8 := orN_lt n fun d _ => by
  by_cases h : s.testBit d = true
  · rw [if_pos h]; exact seenN_lt
  · rw [if_neg h]; exact Nat.two_pow_pos 8
theorem tells5 {mc po : Nat → Int32} {a b nD s : Nat} (hD : nD ≤ 5) (hs : s < 2 ^ 31) : f_X5_tellsApart (nI nD) (plE mc po a b nD) (nI s) = some (bI (!decide (bcI (apN mc a b s nD) < 7))) := by
  unfold f_X5_tellsApart
  have hend : ∀ n, f_X5_tellsApart_L4 f_X5_tellsApart_X43 (nI s) (nI nD) (plE mc po a b nD) (n + 1) (nI (apN mc a b s nD)) (nI nD) = some (bI (!decide (bcI (apN mc a b s nD) < 7))) := fun n => by
    rw [f_X5_tellsApart_L4, if_pos (nI_le (Nat.le_refl _) (by omega)), f_X5_tellsApart_X43]
    unfold bcI
    by_cases q : f_J6_bitCount_0f7a4 (nI (apN mc a b s nD)) < 7
    · rw [if_pos q, decide_eq_true q]; rfl
    · rw [if_neg q, decide_eq_false q]; rfl
  have hst : ∀ n i, 0 ≤ i → i < nD → f_X5_tellsApart_L4 f_X5_tellsApart_X43 (nI s) (nI nD) (plE mc po a b nD) (n + 1) (nI (apN mc a b s i)) (nI i) = f_X5_tellsApart_L4 f_X5_tellsApart_X43 (nI s) (nI nD) (plE mc po a b nD) n (nI (apN mc a b s (i + 1))) (nI (i + 1)) := fun n i _ hi => by
    have e : apN mc a b s (i + 1) = apN mc a b s i ||| (if s.testBit i = true then seenN (mV mc i) a (b + 1) else 0) := rfl
    rw [f_X5_tellsApart_L4, if_neg (nI_ge hi (by omega)), e_bit5 hs (by omega), if_bI, e]
    by_cases q : s.testBit i = true
    · rw [if_pos q, if_pos q, e_at (by omega) (by decide), plE_in hi, b_or, f_X5_tellsApart_J37, nI_1]
    · rw [if_neg q, if_neg q, f_X5_tellsApart_J37, nI_1, Nat.or_zero]
  exact lp (fun n i => f_X5_tellsApart_L4 f_X5_tellsApart_X43 (nI s) (nI nD) (plE mc po a b nD) n (nI (apN mc a b s i)) (nI i)) nD hend 0 hst (Nat.zero_le _) (by omega)
def foE : Option Nat → Int32
  | none => -9
  | some k => nI k
def apL (f : Option Nat) (s : Nat) : Bool := match f with
  | none => true
  | some k => !decide (bcI k ≤ bcI s)
def apQ (mc : Nat → Int32) (a b nD s : Nat) (f : Option Nat) : Bool := !decide (bcI (apN mc a b s nD) < 7) && apL f s
def apF (mc : Nat → Int32) (a b nD : Nat) : Nat → Option Nat
  | 0 => none
  | s + 1 => if apQ mc a b nD s (apF mc a b nD s) = true then some s else apF mc a b nD s
theorem apF_lt {mc : Nat → Int32} {a b nD : Nat} : ∀ s k, apF mc a b nD s = some k → k < s := by
  intro s
  induction s with
  | zero => intro k h; cases h
  | succ s ih =>
    intro k h
    rw [apF] at h
    by_cases q : apQ mc a b nD s (apF mc a b nD s) = true
    · rw [if_pos q] at h
      cases h
      exact Nat.lt_succ_self _
    · rw [if_neg q] at h
      have := ih k h
      omega
theorem foE_ne {k : Nat} (hk : k < 2 ^ 31) : ¬ foE (some k) = -9 := fun q => by
  have h := nI_pos hk
  have e : nI k = -9 := q
  rw [e] at h
  exact h (by decide)
theorem fewest5 {mc po : Nat → Int32} {a b nD : Nat} (hD : nD ≤ 5) : f_X5_fewestApart_L46 (nI nD) (plE mc po a b nD) FU (-9) 0 = some (foE (apF mc a b nD (2 ^ nD)), plE mc po a b nD) := by
  have hN := p2A hD
  have hb : (1 : Int32) <<< (nI nD &&& 31) = nI (2 ^ nD) := b_bit nD (by omega)
  generalize hNN : 2 ^ nD = N at hN hb
  have hend : ∀ n, f_X5_fewestApart_L46 (nI nD) (plE mc po a b nD) (n + 1) (foE (apF mc a b nD N)) (nI N) = some (foE (apF mc a b nD N), plE mc po a b nD) := fun n => by
    rw [f_X5_fewestApart_L46, hb, if_pos (nI_le (Nat.le_refl _) (by omega))]
  have hst : ∀ n i, 0 ≤ i → i < N → f_X5_fewestApart_L46 (nI nD) (plE mc po a b nD) (n + 1) (foE (apF mc a b nD i)) (nI i) = f_X5_fewestApart_L46 (nI nD) (plE mc po a b nD) n (foE (apF mc a b nD (i + 1))) (nI (i + 1)) := fun n i _ hi => by
    have hlt := apF_lt (mc := mc) (a := a) (b := b) (nD := nD) i
    have J : ∀ (K : Int32 → Int32 → Option (Int32 × (Nat → Int32))) (f : Option Nat) (t : Bool), apL f i = t → f_X5_fewestApart_J86 K (foE f) (nI i) (nI nD) (plE mc po a b nD) (bI t) = K (foE (if apQ mc a b nD i f = true then some i else f)) (nI (i + 1)) := fun K f t ht => by
      rw [f_X5_fewestApart_J86, if_bI]
      unfold apQ
      rw [ht]
      cases t with
      | true =>
        rw [if_pos rfl, tells5 hD (by omega), Option.bind_some, if_bI, Bool.and_true]
        cases !decide (bcI (apN mc a b i nD) < 7) with
        | true => rw [if_pos rfl, if_pos rfl, f_X5_fewestApart_J105, nI_1]; rfl
        | false => rw [if_neg (by decide), if_neg (by decide), f_X5_fewestApart_J105, nI_1]
      | false => rw [if_neg (by decide), Bool.and_false, if_neg (by decide), f_X5_fewestApart_J105, nI_1]
    have J1 : ∀ (K : Int32 → Int32 → Option (Int32 × (Nat → Int32))) (f : Option Nat), apL f i = true → f_X5_fewestApart_J86 K (foE f) (nI i) (nI nD) (plE mc po a b nD) 1 = K (foE (if apQ mc a b nD i f = true then some i else f)) (nI (i + 1)) := fun K f ht => J K f true ht
    have J0 : ∀ (K : Int32 → Int32 → Option (Int32 × (Nat → Int32))) (f : Option Nat), apL f i = false → f_X5_fewestApart_J86 K (foE f) (nI i) (nI nD) (plE mc po a b nD) 0 = K (foE (if apQ mc a b nD i f = true then some i else f)) (nI (i + 1)) := fun K f ht => J K f false ht
    rw [f_X5_fewestApart_L46, hb, if_neg (nI_ge hi (by omega)), apF]
    generalize apF mc a b nD i = f at hlt
    cases f with
    | none => rw [if_pos (show foE none = -9 from rfl), J1 _ none rfl]
    | some k =>
      have hk := hlt k rfl
      rw [if_neg (foE_ne (by omega))]
      by_cases q : f_J6_bitCount_0f7a4 (foE (some k)) ≤ f_J6_bitCount_0f7a4 (nI i)
      · rw [if_pos q, J0 _ (some k) (by show (!decide (bcI k ≤ bcI i)) = false; rw [decide_eq_true (show bcI k ≤ bcI i from q)]; rfl)]
      · rw [if_neg q, J1 _ (some k) (by show (!decide (bcI k ≤ bcI i)) = true; rw [decide_eq_false (show ¬ bcI k ≤ bcI i from q)]; rfl)]
  exact lp (fun n i => f_X5_fewestApart_L46 (nI nD) (plE mc po a b nD) n (foE (apF mc a b nD i)) (nI i)) N hend 0 hst (Nat.zero_le _) (by omega)
theorem fewest5a {mc st po : Nat → Int32} {nD a b : Nat} (hMt : RMt (nI nD) mc st 0 nD) (hD : nD ≤ 5) (hab : a ≤ b) (hb : b < 24) : f_X5_fewestApart (nI nD) mc po (nI a) (nI b) = some (foE (apF mc a b nD (2 ^ nD)), plE mc po a b nD) := by
  unfold f_X5_fewestApart
  have hend : ∀ n, f_X5_fewestApart_L2 (f_X5_fewestApart_X40 (nI nD)) (nI a) (nI b) (nI nD) mc (n + 1) (nI nD) (plE mc po a b nD) = some (foE (apF mc a b nD (2 ^ nD)), plE mc po a b nD) := fun n => by
    rw [f_X5_fewestApart_L2, if_pos (nI_le (Nat.le_refl _) (by omega)), f_X5_fewestApart_X40, fewest5 hD]
  have hst : ∀ n i, 0 ≤ i → i < nD → f_X5_fewestApart_L2 (f_X5_fewestApart_X40 (nI nD)) (nI a) (nI b) (nI nD) mc (n + 1) (nI i) (plE mc po a b i) = f_X5_fewestApart_L2 (f_X5_fewestApart_X40 (nI nD)) (nI a) (nI b) (nI nD) mc n (nI (i + 1)) (plE mc po a b (i + 1)) := fun n i _ hi => by
    rw [f_X5_fewestApart_L2, if_neg (nI_ge hi (by omega)), e_seen hMt hD hi hb hab, Option.bind_some, e_put (by omega) (by decide), plE_s, nI_1]
  have h := lp (fun n i => f_X5_fewestApart_L2 (f_X5_fewestApart_X40 (nI nD)) (nI a) (nI b) (nI nD) mc n (nI i) (plE mc po a b i)) nD hend 0 hst (Nat.zero_le _) (by omega)
  rw [plE_0] at h
  exact h
/-! the reference's -/
def apH (v a s d i : Nat) : Nat := if s.testBit d = true then seenN v a i else 0
theorem seen6h {K : Int32 → Option Int32} {mc st : Nat → Int32} {x3 x4 : Int32} {nD a b s d m : Nat} (hMt : RMt (nI nD) mc st 0 nD) (hD : nD ≤ 5) (hd : d < nD) (hab : a ≤ b) (hb : b < 24) (hs : s < 2 ^ 31) : f_X6_apart_L55 K (nI a) (nI b) x3 x4 (nI s) (nI d) (nI nD) st FU (nI m) (nI a) = K (nI (m ||| apH (mV mc d) a s d (b + 1))) := by
  have hend : ∀ n, f_X6_apart_L55 K (nI a) (nI b) x3 x4 (nI s) (nI d) (nI nD) st (n + 1) (nI (m ||| apH (mV mc d) a s d (b + 1))) (nI (b + 1)) = K (nI (m ||| apH (mV mc d) a s d (b + 1))) := fun n => by
    rw [f_X6_apart_L55, if_pos (nI_lt (by omega) (by omega))]
  have hst : ∀ n i, a ≤ i → i < b + 1 → f_X6_apart_L55 K (nI a) (nI b) x3 x4 (nI s) (nI d) (nI nD) st (n + 1) (nI (m ||| apH (mV mc d) a s d i)) (nI i) = f_X6_apart_L55 K (nI a) (nI b) x3 x4 (nI s) (nI d) (nI nD) st n (nI (m ||| apH (mV mc d) a s d (i + 1))) (nI (i + 1)) := fun n i ha hi => by
    have hl := lk_lt (mV mc d) i
    rw [f_X6_apart_L55, if_neg (nI_nlt (by omega) (by omega)), e_bit6 hs (by omega), if_bI]
    unfold apH
    by_cases q : s.testBit d = true
    · rw [if_pos q, if_pos q, if_pos q, e_looksV hMt hD hd (by omega), Option.bind_some, b_bit _ (by omega), f_X6_apart_J87, b_or, nI_1, seenN_s ha, Nat.or_assoc]
    · rw [if_neg q, if_neg q, if_neg q, f_X6_apart_J87, nI_1, Int32.or_zero]
  have h := lp (fun n i => f_X6_apart_L55 K (nI a) (nI b) x3 x4 (nI s) (nI d) (nI nD) st n (nI (m ||| apH (mV mc d) a s d i)) (nI i)) (b + 1) hend a hst (by omega) (by omega)
  have h0 : apH (mV mc d) a s d a = 0 := by unfold apH; rw [seenN_0, ite_self]
  rw [h0, Nat.or_zero] at h
  exact h
theorem seen6 {K : Int32 → Option Int32} {mc st : Nat → Int32} {x3 x4 : Int32} {nD a b s : Nat} (hMt : RMt (nI nD) mc st 0 nD) (hD : nD ≤ 5) (hab : a ≤ b) (hb : b < 24) (hs : s < 2 ^ 31) : f_X6_apart_L43 K (nI a) (nI b) x3 x4 (nI s) (nI nD) st FU 0 0 = K (nI (apN mc a b s nD)) := by
  have hend : ∀ n, f_X6_apart_L43 K (nI a) (nI b) x3 x4 (nI s) (nI nD) st (n + 1) (nI (apN mc a b s nD)) (nI nD) = K (nI (apN mc a b s nD)) := fun n => by
    rw [f_X6_apart_L43, if_pos (nI_le (Nat.le_refl _) (by omega))]
  have hst : ∀ n i, 0 ≤ i → i < nD → f_X6_apart_L43 K (nI a) (nI b) x3 x4 (nI s) (nI nD) st (n + 1) (nI (apN mc a b s i)) (nI i) = f_X6_apart_L43 K (nI a) (nI b) x3 x4 (nI s) (nI nD) st n (nI (apN mc a b s (i + 1))) (nI (i + 1)) := fun n i _ hi => by
    rw [f_X6_apart_L43, if_neg (nI_ge hi (by omega)), seen6h hMt hD hi hab hb hs, f_X6_apart_X96, nI_1]
    rfl
  exact lp (fun n i => f_X6_apart_L43 K (nI a) (nI b) x3 x4 (nI s) (nI nD) st n (nI (apN mc a b s i)) (nI i)) nD hend 0 hst (Nat.zero_le _) (by omega)
theorem fewest6 {K : Int32 → Option Int32} {mc st : Nat → Int32} {x3 : Int32} {nD a b : Nat} (hMt : RMt (nI nD) mc st 0 nD) (hD : nD ≤ 5) (hab : a ≤ b) (hb : b < 24) : f_X6_apart_L26 K (nI a) (nI b) x3 (nI nD) st FU (-9) 0 = K (foE (apF mc a b nD (2 ^ nD))) := by
  have hN := p2A hD
  have hbb : (1 : Int32) <<< (nI nD &&& 31) = nI (2 ^ nD) := b_bit nD (by omega)
  generalize hNN : 2 ^ nD = N at hN hbb
  have hend : ∀ n, f_X6_apart_L26 K (nI a) (nI b) x3 (nI nD) st (n + 1) (foE (apF mc a b nD N)) (nI N) = K (foE (apF mc a b nD N)) := fun n => by
    rw [f_X6_apart_L26, hbb, if_pos (nI_le (Nat.le_refl _) (by omega))]
  have hst : ∀ n i, 0 ≤ i → i < N → f_X6_apart_L26 K (nI a) (nI b) x3 (nI nD) st (n + 1) (foE (apF mc a b nD i)) (nI i) = f_X6_apart_L26 K (nI a) (nI b) x3 (nI nD) st n (foE (apF mc a b nD (i + 1))) (nI (i + 1)) := fun n i _ hi => by
    have hlt := apF_lt (mc := mc) (a := a) (b := b) (nD := nD) i
    have hap := apN_lt (mc := mc) (a := a) (b := b) (s := i) (n := nD)
    rw [f_X6_apart_L26, hbb, if_neg (nI_ge hi (by omega)), seen6 hMt hD hab hb (by omega), f_X6_apart_X102, e_bits _ (by omega), Option.bind_some, apF]
    generalize apF mc a b nD i = f at hlt
    have hbc : f_J6_bitCount_0f7a4 (nI (apN mc a b i nD)) = bcI (apN mc a b i nD) := rfl
    rw [hbc]
    have no : apQ mc a b nD i f = false → ∀ K : Int32 → Int32 → Option Int32, f_X6_apart_J137 K (nI a) (nI b) x3 (foE f) (nI i) (nI nD) st 0 = K (foE (if apQ mc a b nD i f = true then some i else f)) (nI (i + 1)) := fun z K => by
      rw [f_X6_apart_J137, if_pos e00, f_X6_apart_J151, nI_1, z, if_neg (by decide)]
    have yes : apQ mc a b nD i f = true → ∀ K : Int32 → Int32 → Option Int32, f_X6_apart_J137 K (nI a) (nI b) x3 (foE f) (nI i) (nI nD) st 1 = K (foE (if apQ mc a b nD i f = true then some i else f)) (nI (i + 1)) := fun z K => by
      rw [f_X6_apart_J137, if_neg n10, f_X6_apart_J151, nI_1, z, if_pos rfl]
      rfl
    by_cases q : bcI (apN mc a b i nD) < 7
    · rw [if_pos q]
      exact no (by unfold apQ; rw [decide_eq_true q]; rfl) _
    rw [if_neg q]
    have hq : apQ mc a b nD i f = apL f i := by unfold apQ; rw [decide_eq_false q]; rfl
    cases f with
    | none =>
      rw [if_pos (show foE none = -9 from rfl)]
      exact yes (hq.trans rfl) _
    | some k =>
      have hk := hlt k rfl
      rw [if_neg (foE_ne (by omega)), e_bits i (by omega), Option.bind_some, show f_X6_bits (foE (some k)) = some (f_J6_bitCount_0f7a4 (nI k)) from e_bits k (by omega), Option.bind_some]
      by_cases r : f_J6_bitCount_0f7a4 (nI k) ≤ f_J6_bitCount_0f7a4 (nI i)
      · rw [if_pos r]
        exact no (hq.trans (by show (!decide (bcI k ≤ bcI i)) = false; rw [decide_eq_true (show bcI k ≤ bcI i from r)]; rfl)) _
      · rw [if_neg r]
        exact yes (hq.trans (by show (!decide (bcI k ≤ bcI i)) = true; rw [decide_eq_false (show ¬ bcI k ≤ bcI i from r)]; rfl)) _
  exact lp (fun n i => f_X6_apart_L26 K (nI a) (nI b) x3 (nI nD) st n (foE (apF mc a b nD i)) (nI i)) N hend 0 hst (Nat.zero_le _) (by omega)
theorem op_apart (sc : Nat → Int32) (ar : Nat → Nat → Int32) (lg : Nat → Int64) (hR : Rel sc ar lg) (y1 : Int32) (y2 : Int32) (y3 : Int32) :
    ∃ (q : Int32 × (Nat → Int32)) (q' : Int32), f_X5_apart (sc 30) (ar 14) (ar 16) y1 y2 y3 = some q ∧ f_X6_apart (sc 46) (ar 34) y1 y2 y3 = some q' ∧ q.1 = q' ∧ Rel sc (uv ar 16 q.2) lg := by
  obtain ⟨hM, hT, hTx, nD, nA, nS, nN, hD5, hDi, hAs, hSp, hNo, ⟨hMt, nL, nG, nU, hLe, hLo, hUn⟩, hIm⟩ := id hR
  have hMt0 : RMt (nI nD) (ar 14) (ar 34) 0 nD := ⟨rfl, hMt.2⟩
  have fin : ∀ b : Nat → Int32, Rel sc (uv ar 16 b) lg := fun b => ⟨hM, hT, hTx, nD, nA, nS, nN, hD5, hDi, hAs, hSp, hNo, ⟨hMt, nL, nG, nU, hLe, hLo, hUn⟩, hIm⟩
  unfold f_X5_apart f_X6_apart
  rw [hDi, hMt.1, t5_bit, t6_in1]
  rcases ah_or y1 y2 with ⟨h, h6⟩ | ⟨h, h6, a, b, hab, hb, rfl, rfl⟩
  · rw [if_pos h, if_pos h6]
    exact ⟨_, _, rfl, rfl, rfl, fin _⟩
  rw [h, h6, if_neg n10, if_neg n10]
  rcases tst_or (n := 2) (by decide) y3 with t | ⟨t, w, hw, rfl⟩
  · rw [if_pos t, if_pos t]
    exact ⟨_, _, rfl, rfl, rfl, fin _⟩
  have hN := p2A hD5
  have hlt := apF_lt (mc := ar 14) (a := a) (b := b) (nD := nD) (2 ^ nD)
  rw [if_neg (tst_ne hw (by decide)), if_neg (tst_ne hw (by decide)), fewest5a hMt0 hD5 hab hb, Option.bind_some, fewest6 hMt0 hD5 hab hb, f_X6_apart_X159]
  generalize apF (ar 14) a b nD (2 ^ nD) = f at hlt
  cases f with
  | none =>
    rw [if_pos (show foE none = -9 from rfl), if_pos (show foE none = -9 from rfl)]
    exact ⟨_, _, rfl, rfl, rfl, fin _⟩
  | some k =>
    have hk := hlt k rfl
    rw [if_neg (foE_ne (by omega)), if_neg (foE_ne (by omega)), show f_X6_bits (foE (some k)) = some (f_J6_bitCount_0f7a4 (nI k)) from e_bits k (by omega)]
    rcases (show w = 0 ∨ w = 1 by omega) with rfl | rfl
    · rw [if_pos (by decide), if_neg (by decide)]
      exact ⟨_, _, rfl, rfl, rfl, fin _⟩
    · rw [if_neg (by decide), if_pos (by decide)]
      exact ⟨_, _, rfl, rfl, rfl, fin _⟩
