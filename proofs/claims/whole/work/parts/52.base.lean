/-! small arithmetic: numbers of both sides as nI of a Nat; what the tests of an argument come to -/
theorem n10 : ¬ (1 : Int32) = 0 := by decide
theorem e00 : (0 : Int32) = 0 := rfl
theorem lt0_f {a : Nat} (h : a < 2 ^ 31) : (nI a < 0) = False := eq_false (nI_pos h)
theorem b_lt {a b : Nat} (ha : a < 2 ^ 31) (hb : b < 2 ^ 31) : (nI a < nI b) = (a < b) := propext (nI_ltI ha hb)
theorem b_le {a b : Nat} (ha : a < 2 ^ 31) (hb : b < 2 ^ 31) : (nI a ≤ nI b) = (a ≤ b) := propext (nI_leI ha hb)
theorem b_eq {a b : Nat} (ha : a < 2 ^ 31) (hb : b < 2 ^ 31) : (nI a = nI b) = (a = b) := propext (nI_eq ha hb)
/-- an index that is in its row -/
theorem in_row {a n : Nat} (h : a < n) (hn : n < 2 ^ 31) : ¬ (nI a < 0 ∨ n ≤ (nI a).toNatClampNeg) := by
  rintro (q | q)
  · exact nI_pos (by omega) q
  · rw [nI_clamp (by omega)] at q
    omega
theorem in_row2 {a n : Nat} (h : a < n) (hn : n < 2 ^ 31) : ¬ (nI a < 0 ∨ n ≤ a) := by
  rintro (q | q)
  · exact nI_pos (by omega) q
  · omega
theorem e_at {n : Nat} {f : Nat → Int32} {k : Nat} (hk : k < n) (hn : n < 2 ^ 31) : f_X5_at n f (nI k) = f k := by
  unfold f_X5_at
  rw [if_neg (nI_pos (by omega)), if_neg (show ¬ Int32.ofNat n ≤ nI k from nI_ge hk hn), nI_clamp (by omega)]
theorem e_put {n : Nat} {f : Nat → Int32} {k : Nat} {v : Int32} (hk : k < n) (hn : n < 2 ^ 31) : f_X5_put n f (nI k) v = upd f k v := by
  unfold f_X5_put
  rw [if_neg (nI_pos (by omega)), if_neg (show ¬ Int32.ofNat n ≤ nI k from nI_ge hk hn), nI_clamp (by omega)]
theorem e_has {m r w : Nat} (hr : r < m) (hm : m < 2 ^ 31) (hw : w < 4) : f_X2_has (nI m) (nI r) (nI w) = 1 := by
  unfold f_X2_has
  rw [if_neg (nI_pos (by omega)), if_neg (nI_ge hr hm), if_neg (nI_pos (by omega)), if_neg (show ¬ (4 : Int32) ≤ nI w from nI_ge (b := 4) hw (by decide))]
theorem e_num {m r w : Nat} {c : Nat → Int32} (hr : r < m) (hm : m ≤ 12) (hw : w < 4) : f_X2_number (nI m) c (nI r) (nI w) = c (4 * r + w) := by
  unfold f_X2_number
  rw [e_has hr (by omega) hw, if_neg (by decide), show nI r * 4 + nI w = nI (4 * r + w) from by rw [show (4 : Int32) = nI 4 from rfl, pk_mul, nI_add, Nat.mul_comm]]
  exact e_at (by omega) (by decide)
theorem e_num0 {m r : Nat} {c : Nat → Int32} (hr : r < m) (hm : m ≤ 12) : f_X2_number (nI m) c (nI r) 0 = c (4 * r) := e_num (w := 0) hr hm (by decide)
theorem e_num1 {m r : Nat} {c : Nat → Int32} (hr : r < m) (hm : m ≤ 12) : f_X2_number (nI m) c (nI r) 1 = c (4 * r + 1) := e_num (w := 1) hr hm (by decide)
theorem e_num2 {m r : Nat} {c : Nat → Int32} (hr : r < m) (hm : m ≤ 12) : f_X2_number (nI m) c (nI r) 2 = c (4 * r + 2) := e_num (w := 2) hr hm (by decide)
theorem e_num3 {m r : Nat} {c : Nat → Int32} (hr : r < m) (hm : m ≤ 12) : f_X2_number (nI m) c (nI r) 3 = c (4 * r + 3) := e_num (w := 3) hr hm (by decide)
/-- which place a dish sees: mount v, hour h -/
def lk (v h : Nat) : Nat := (v + 24 - h) % 8
theorem lk_lt (v h : Nat) : lk v h < 8 := Nat.mod_lt _ (by decide)
theorem e_floor : ∀ v, v < 8 → ∀ h, h < 24 → f_J9_floorMod_7cf53 (nI v - nI h) 8 = nI (lk v h) := by decide +kernel
theorem e_place {m d v h : Nat} {c : Nat → Int32} (hd : d < m) (hm : m ≤ 5) (hv : v < 8) (hh : h < 24) (hc : c (4 * d) = nI v) : f_X0_placeSeen (nI m) c (nI d) (nI h) = nI (lk v h) := by
  unfold f_X0_placeSeen
  rw [e_num0 hd (by omega), hc, e_floor v hv h hh]
theorem e_rem8 : ∀ v, v < 8 → ∀ h, h < 24 → (nI v + 8) - (nI h - nI h / 8 * 8) - ((nI v + 8) - (nI h - nI h / 8 * 8)) / 8 * 8 = nI (lk v h) := by decide +kernel
theorem e_looksOf {d v h : Nat} {st : Nat → Int32} (hd : d < 5) (hv : v < 8) (hh : h < 24) (hs : st (3 + d) = nI v) : f_X6_looksOf st (nI d) (nI h) = some (nI (lk v h)) := by
  unfold f_X6_looksOf
  rw [show (3 : Int32) + nI d = nI (3 + d) from nI_add 3 d, if_neg (in_row (by omega) (by decide)), nI_clamp (by omega), hs, e_rem8 v hv h hh]
/-- one less than a small number -/
theorem pred_lt {n : Nat} (hn : n ≤ 1000) (x : Int32) : (nI n - 1 < x) = (nI n ≤ x) := by
  have e1 : (nI n - nI 1).toInt = (n : Int) - 1 := pk_sub_toInt (by omega) (by omega)
  have e2 : (nI n).toInt = (n : Int) := nI_toInt (by omega)
  have e3 : nI n - 1 = nI n - nI 1 := rfl
  rw [e3, Int32.lt_iff_toInt_lt, Int32.le_iff_toInt_le, e1, e2]
  exact propext ⟨fun h => by omega, fun h => by omega⟩
theorem in_pred {n : Nat} (hn : n ≤ 1000) (x : Int32) : f_X6_in x 0 (nI n - 1) = if x < 0 then 0 else if nI n ≤ x then 0 else 1 := by
  unfold f_X6_in
  by_cases h : x < 0
  · rw [if_pos h, if_pos h]
  · rw [if_neg h, if_neg h]
    by_cases h2 : nI n ≤ x
    · rw [if_pos h2, if_pos (by rw [pred_lt hn]; exact h2)]
    · rw [if_neg h2, if_neg (by rw [pred_lt hn]; exact h2)]
/-- a test 0 .. n-1 of an argument, and what it comes to -/
def tst (n : Nat) (x : Int32) : Int32 := if x < 0 then 0 else if nI n ≤ x then 0 else 1
theorem tst_or {n : Nat} (hn : n ≤ 1000) (x : Int32) : (tst n x = 0) ∨ (tst n x = 1 ∧ ∃ j, j < n ∧ x = nI j) := by
  unfold tst
  rcases pk_ix x (n := n) (by omega) with h | h | ⟨j, hj, rfl⟩
  · exact Or.inl (if_pos h)
  · refine Or.inl ?_
    by_cases h0 : x < 0
    · exact if_pos h0
    · rw [if_neg h0, if_pos h]
  · refine Or.inr ⟨?_, j, hj, rfl⟩
    rw [if_neg (nI_pos (by omega)), if_neg (nI_ge hj (by omega))]
theorem tst_1 {n j : Nat} (h : j < n) (hn : n ≤ 1000) : tst n (nI j) = 1 := by
  unfold tst
  rw [if_neg (nI_pos (by omega)), if_neg (nI_ge h (by omega))]
theorem tst_ne {n j : Nat} (h : j < n) (hn : n ≤ 1000) : ¬ tst n (nI j) = 0 := by rw [tst_1 h hn]; decide
theorem t5_dish (n : Nat) (x : Int32) : f_X5_isDish (nI n) x = tst n x := rfl
theorem t5_asker (n : Nat) (x : Int32) : f_X5_isAsker (nI n) x = tst n x := rfl
theorem t5_hour (x : Int32) : f_X5_isHour x = tst 24 x := rfl
theorem t5_note (x : Int32) : f_X5_isNote x = tst 10 x := rfl
theorem t6_dish {n : Nat} (hn : n ≤ 1000) (x : Int32) : f_X6_isDish (nI n) x = tst n x := in_pred hn x
theorem t6_asker {n : Nat} (hn : n ≤ 1000) (x : Int32) : f_X6_isAsker (nI n) x = tst n x := in_pred hn x
theorem t6_hour (x : Int32) : f_X6_isHour x = tst 24 x := in_pred (n := 24) (by decide) x
theorem t6_note (x : Int32) : f_X6_isNote x = tst 10 x := in_pred (n := 10) (by decide) x
theorem t6_in1 (x : Int32) : f_X6_in x 0 1 = tst 2 x := in_pred (n := 2) (by decide) x
theorem t6_in2 (x : Int32) : f_X6_in x 0 2 = tst 3 x := in_pred (n := 3) (by decide) x
theorem t5_bit (x : Int32) : f_X5_isBit x = tst 2 x := by
  rcases tst_or (n := 2) (by decide) x with h | ⟨h, j, hj, rfl⟩
  · rw [h]
    unfold f_X5_isBit
    rw [if_neg (fun q => by rw [q] at h; revert h; decide), if_neg (fun q => by rw [q] at h; revert h; decide)]
  · rw [h]
    rcases (show j = 0 ∨ j = 1 by omega) with rfl | rfl <;> decide
