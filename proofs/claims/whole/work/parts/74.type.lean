/-! type: bytes of a long -/
theorem by_s1 : ∀ k, k < 8 → (((8 * nI k).toInt64.toUInt64 &&& Int64.toUInt64 63).toBitVec % 64).toNat = 8 * k := by decide +kernel
theorem by_s2 : ∀ k, k < 8 → (((8 * nI k).toInt64 &&& 63).toBitVec.smod 64).toNat = 8 * k := by decide +kernel
theorem by_m1 : ∀ i, i < 32 → (255#32).getLsbD i = decide (i < 8) := by decide +kernel
theorem by_m2 : ∀ i, i < 32 → (255#64).getLsbD i = decide (i < 8) := by decide +kernel
def byA (v : Int64) (k : Nat) : Int32 := ((v.toUInt64 >>> ((8 * nI k).toInt64.toUInt64 &&& Int64.toUInt64 63)).toInt64).toInt32 &&& 255
def byB (v : Int64) (k : Nat) : Int32 := ((v >>> ((8 * nI k).toInt64 &&& 63)) &&& 255).toInt32
theorem by_eq (v : Int64) (k : Nat) (hk : k < 8) : byA v k = byB v k := by
  have e1 : (v.toUInt64 >>> ((8 * nI k).toInt64.toUInt64 &&& Int64.toUInt64 63)).toInt64.toBitVec = v.toBitVec >>> (8 * k) := by
    rw [← by_s1 k hk]
    exact UInt64.toBitVec_shiftRight _ _
  have e2 : (v >>> ((8 * nI k).toInt64 &&& 63)).toBitVec = v.toBitVec.sshiftRight (8 * k) := by
    rw [← by_s2 k hk]
    rfl
  unfold byA byB
  apply Int32.toBitVec_inj.mp
  rw [Int32.toBitVec_and, Int64.toBitVec_toInt32, Int64.toBitVec_toInt32, Int64.toBitVec_and, e1, e2]
  generalize v.toBitVec = x
  show (x >>> (8 * k)).signExtend 32 &&& 255#32 = (x.sshiftRight (8 * k) &&& 255#64).signExtend 32
  apply BitVec.eq_of_getLsbD_eq
  intro i hi
  rw [BitVec.getLsbD_and, BitVec.getLsbD_signExtend, BitVec.getLsbD_signExtend, BitVec.getLsbD_and, BitVec.getLsbD_ushiftRight, BitVec.getLsbD_sshiftRight, by_m1 i hi, by_m2 i hi, if_pos (show i < 64 by omega), if_pos (show i < 64 by omega)]
  by_cases h8 : i < 8
  · rw [if_pos (show 8 * k + i < 64 by omega), decide_eq_true h8, decide_eq_true hi, decide_eq_false (show ¬ 64 ≤ i by omega), Bool.and_true, Bool.and_true, Bool.not_false, Bool.true_and, Bool.true_and]
  · rw [decide_eq_false h8, Bool.and_false, Bool.and_false, Bool.and_false]
theorem by_in (v : Int64) (k : Nat) : inN (byA v k) 256 := by
  obtain ⟨j, hj, e⟩ := pk_andE ((v.toUInt64 >>> ((8 * nI k).toInt64.toUInt64 &&& Int64.toUInt64 63)).toInt64).toInt32 (m := 255) 8 (by decide)
  exact ⟨j, hj, e⟩
def tyA (v : Int64) : Nat → Nat → (Nat → Int32) → (Nat → Int32)
  | 0, _, t => t
  | m + 1, n, t => tyA v m (n + 1) (upd t n (byA v m))
theorem m_dec (m : Nat) : nI m + (-1) = nI m - 1 := (Int32.sub_eq_add_neg (nI m) 1).symm
theorem type5 {v : Int64} : ∀ m l t n, m < n → l + m ≤ 250 → f_X3_add_L19 v n (nI m - 1) (nI l) t = some (1, nI (l + m), tyA v m l t) := by
  intro m
  induction m with
  | zero =>
    intro l t n hn hl
    obtain ⟨n, rfl⟩ : ∃ z, n = z + 1 := ⟨n - 1, by omega⟩
    rw [f_X3_add_L19, if_pos (by decide)]
    rfl
  | succ m ih =>
    intro l t n hn hl
    obtain ⟨n, rfl⟩ : ∃ z, n = z + 1 := ⟨n - 1, by omega⟩
    have e : (((v.toUInt64 >>> ((8 * nI m).toInt64.toUInt64 &&& Int64.toUInt64 63)).toInt64).toInt32 &&& 255) = byA v m := rfl
    rw [f_X3_add_L19, nI_pred, if_neg (nI_pos (by omega)), m_dec, e, e_put (by omega) (by decide), nI_1, ih (l + 1) _ n (by omega) (by omega), show l + 1 + m = l + (m + 1) by omega]
    rfl
theorem type6 {v : Int64} : ∀ m l t n, m < n → m ≤ 8 → l + m ≤ 250 → f_X6_type_L32 v n (nI m - 1) (nI l) t = some (nI (l + m), nI (l + m), tyA v m l t) := by
  intro m
  induction m with
  | zero =>
    intro l t n hn hm hl
    obtain ⟨n, rfl⟩ : ∃ z, n = z + 1 := ⟨n - 1, by omega⟩
    rw [f_X6_type_L32, if_pos (by decide)]
    rfl
  | succ m ih =>
    intro l t n hn hm hl
    obtain ⟨n, rfl⟩ : ∃ z, n = z + 1 := ⟨n - 1, by omega⟩
    have e : ((v >>> ((8 * nI m).toInt64 &&& 63)) &&& 255).toInt32 = byA v m := (by_eq v m (by omega)).symm
    rw [f_X6_type_L32, nI_pred, if_neg (nI_pos (by omega)), m_dec, e, if_neg (in_row (a := l) (by omega) (by decide)), nI_clamp (n := l) (by omega), nI_1, ih (l + 1) _ n (by omega) (by omega) (by omega), show l + 1 + m = l + (m + 1) by omega]
    rfl
theorem ty_rel {v : Int64} : ∀ m l (t5 t6 : Nat → Int32), (∀ i, i < l → t5 i = t6 i ∧ inN (t6 i) 256) → ∀ i, i < l + m → tyA v m l t5 i = tyA v m l t6 i ∧ inN (tyA v m l t6 i) 256 := by
  intro m
  induction m with
  | zero => intro l t5 t6 h i hi; exact h i hi
  | succ m ih =>
    intro l t5 t6 h i hi
    refine ih (l + 1) _ _ (fun j hj => ?_) i (by omega)
    by_cases e : j = l
    · subst e
      rw [pk_us, pk_us]
      exact ⟨rfl, by_in v m⟩
    · rw [pk_un e, pk_un e]
      exact h j (by omega)
theorem op_type (sc : Nat → Int32) (ar : Nat → Nat → Int32) (lg : Nat → Int64) (hR : Rel sc ar lg) (y1 : Int64) (y2 : Int32) :
    ∃ (q : Int32 × Int32 × (Nat → Int32)) (q' : Int32 × Int32 × (Nat → Int32)), f_X5_type (sc 33) (ar 19) y1 y2 = some q ∧ f_X6_type (sc 50) (ar 35) y1 y2 = some q' ∧ q.1 = q'.1 ∧ Rel (uv (uv sc 33 q.2.1) 50 q'.2.1) (uv (uv ar 19 q.2.2) 35 q'.2.2) lg := by
  obtain ⟨hM, hT, ⟨nT, ht1, ht2, ht3, ht4⟩, hrest⟩ := id hR
  have hTx0 : RTx (nI nT) (ar 19) (nI nT) (ar 35) := ⟨nT, ht1, rfl, rfl, ht4⟩
  have nochange : ∀ v : Int32, ∃ (q : Int32 × Int32 × (Nat → Int32)) (q' : Int32 × Int32 × (Nat → Int32)), some (v, nI nT, ar 19) = some q ∧ some (v, nI nT, ar 35) = some q' ∧ q.1 = q'.1 ∧ Rel (uv (uv sc 33 q.2.1) 50 q'.2.1) (uv (uv ar 19 q.2.2) 35 q'.2.2) lg := fun v =>
    ⟨_, _, rfl, rfl, rfl, hM, hT, hTx0, hrest⟩
  unfold f_X5_type f_X6_type
  rw [ht2, ht3, in_ite]
  by_cases c1 : y2 < 1
  · rw [if_pos c1, if_pos c1]
    exact nochange _
  rw [if_neg c1, if_neg c1]
  by_cases c8 : y2 ≤ 8
  · have n8 : ¬ 8 < y2 := fun q => by
      rw [Int32.lt_iff_toInt_lt] at q
      rw [Int32.le_iff_toInt_le] at c8
      omega
    have n0 : ¬ y2 < 0 := fun q => by
      rw [Int32.lt_iff_toInt_lt] at q c1
      have a0 : (0 : Int32).toInt = 0 := by decide
      have a1 : (1 : Int32).toInt = 1 := by decide
      omega
    obtain ⟨m, hm, rfl⟩ := nI_of2 (M := 8) (n := 8) (by decide) n0 c8
    rw [if_pos c8, if_neg n8]
    unfold f_X3_add
    rw [nI_add]
    by_cases cf : nT + m ≤ 250
    · have c : nI (nT + m) ≤ 250 := nI_le (b := 250) cf (by decide)
      rw [if_pos c, if_pos c, type5 m nT _ FU (by unfold FU; omega) cf, type6 m nT _ FU (by unfold FU; omega) hm cf, Option.bind_some, if_neg n10]
      have hTx : RTx (nI (nT + m)) (tyA y1 m nT (ar 19)) (nI (nT + m)) (tyA y1 m nT (ar 35)) := ⟨nT + m, cf, rfl, rfl, ty_rel m nT _ _ ht4⟩
      exact ⟨_, _, rfl, rfl, rfl, hM, hT, hTx, hrest⟩
    · have c : ¬ nI (nT + m) ≤ 250 := nI_ge (a := 250) (by omega) (by omega)
      rw [if_neg c, if_neg c, Option.bind_some, if_pos e00]
      exact nochange _
  · have g8 : 8 < y2 := by
      rw [Int32.lt_iff_toInt_lt]
      rw [Int32.le_iff_toInt_le] at c8
      omega
    rw [if_neg c8, if_pos g8]
    exact nochange _
