/-! loops by one row; sets of bits as numbers -/
theorem lp {β : Type} {K : β} (F : Nat → Nat → β) (N : Nat) (hend : ∀ n, F (n + 1) N = K) (lo : Nat) (hs : ∀ n i, lo ≤ i → i < N → F (n + 1) i = F n (i + 1)) (hlo : lo ≤ N) (hN : N < lo + 1000) : F FU lo = K := by
  have key : ∀ j i, i + j = N → lo ≤ i → ∀ n, j < n → F n i = K := by
    intro j
    induction j with
    | zero =>
      intro i hi _ n hn
      obtain ⟨n, rfl⟩ : ∃ z, n = z + 1 := ⟨n - 1, by omega⟩
      rw [show i = N by omega]
      exact hend n
    | succ j ih =>
      intro i hi hl n hn
      obtain ⟨n, rfl⟩ : ∃ z, n = z + 1 := ⟨n - 1, by omega⟩
      rw [hs n i hl (by omega)]
      exact ih (i + 1) (by omega) (by omega) n (by omega)
  exact key (N - lo) lo (by omega) (Nat.le_refl _) FU (by unfold FU; omega)
def bI (b : Bool) : Int32 := if b = true then 1 else 0
theorem bI_t : bI true = 1 := rfl
theorem bI_f : bI false = 0 := rfl
theorem if_bI {α : Type} (b : Bool) (x y : α) : (if bI b = 0 then x else y) = if b = true then y else x := by
  cases b with
  | true => rw [if_pos (show (true = true) from rfl), bI_t, if_neg n10]
  | false => rw [if_neg (show ¬ (false = true) by decide), bI_f, if_pos e00]
theorem bI_or (b : Bool) : bI b = 0 ∨ bI b = 1 := by
  cases b with
  | true => exact Or.inr rfl
  | false => exact Or.inl rfl
theorem bI_ite {p : Prop} {h : Decidable p} : (if p then (1 : Int32) else 0) = bI (decide p) := by
  by_cases q : p
  · rw [if_pos q, decide_eq_true q]; rfl
  · rw [if_neg q, decide_eq_false q]; rfl
def tN (x : Int32) : Nat := x.toNatClampNeg
theorem tN_nI {v : Nat} (h : v < 2 ^ 31) : tN (nI v) = v := nI_clamp h
theorem tN_in {x : Int32} {k : Nat} (h : inN x k) (hk : k ≤ 2 ^ 31) : x = nI (tN x) ∧ tN x < k := by
  obtain ⟨v, hv, rfl⟩ := h
  rw [tN_nI (by omega)]
  exact ⟨rfl, hv⟩
def allB (P : Nat → Bool) : Nat → Bool
  | 0 => true
  | n + 1 => allB P n && P n
theorem anyB_iff {P : Nat → Bool} : ∀ n, anyB P n = true ↔ ∃ i, i < n ∧ P i = true := by
  intro n
  induction n with
  | zero => exact ⟨fun h => absurd (show false = true from h) (by decide), fun ⟨i, hi, _⟩ => absurd hi (Nat.not_lt_zero i)⟩
  | succ n ih =>
    rw [anyB, Bool.or_eq_true, ih]
    constructor
    · rintro (⟨i, hi, hp⟩ | hp)
      · exact ⟨i, by omega, hp⟩
      · exact ⟨n, by omega, hp⟩
    · rintro ⟨i, hi, hp⟩
      by_cases hin : i = n
      · exact Or.inr (hin ▸ hp)
      · exact Or.inl ⟨i, by omega, hp⟩
theorem allB_iff {P : Nat → Bool} : ∀ n, allB P n = true ↔ ∀ i, i < n → P i = true := by
  intro n
  induction n with
  | zero => exact ⟨fun _ i hi => absurd hi (Nat.not_lt_zero i), fun _ => rfl⟩
  | succ n ih =>
    rw [allB, Bool.and_eq_true, ih]
    constructor
    · rintro ⟨h, hp⟩ i hi
      by_cases hin : i = n
      · exact hin ▸ hp
      · exact h i (by omega)
    · intro h
      exact ⟨fun i hi => h i (by omega), h n (by omega)⟩
theorem allB_no {P : Nat → Bool} {k : Nat} (hk : P k = false) : ∀ n, k < n → allB P n = false := by
  intro n hn
  cases h : allB P n with
  | false => rfl
  | true => rw [(allB_iff n).1 h k hn] at hk; exact absurd hk (by decide)
def orN (f : Nat → Nat) : Nat → Nat
  | 0 => 0
  | n + 1 => orN f n ||| f n
theorem orN_tb (f : Nat → Nat) (p : Nat) : ∀ n, (orN f n).testBit p = anyB (fun i => (f i).testBit p) n := by
  intro n
  induction n with
  | zero => rw [orN, anyB, Nat.zero_testBit]
  | succ n ih => rw [orN, anyB, Nat.testBit_or, ih]
theorem orN_lt {f : Nat → Nat} {k : Nat} : ∀ n, (∀ i, i < n → f i < 2 ^ k) → orN f n < 2 ^ k := by
  intro n
  induction n with
  | zero => intro _; exact Nat.two_pow_pos k
  | succ n ih => intro h; exact Nat.or_lt_two_pow (ih (fun i hi => h i (by omega))) (h n (by omega))
theorem orN_congr {f g : Nat → Nat} : ∀ n, (∀ i, i < n → f i = g i) → orN f n = orN g n := by
  intro n
  induction n with
  | zero => intro _; rfl
  | succ n ih => intro h; rw [orN, orN, ih (fun i hi => h i (by omega)), h n (by omega)]
theorem orN_0 {f : Nat → Nat} : ∀ n, orN f n = 0 ↔ ∀ i, i < n → f i = 0 := by
  intro n
  induction n with
  | zero => exact ⟨fun _ i hi => absurd hi (Nat.not_lt_zero i), fun _ => rfl⟩
  | succ n ih =>
    rw [orN, Nat.or_eq_zero_iff, ih]
    constructor
    · rintro ⟨h, hp⟩ i hi
      by_cases hin : i = n
      · rw [hin]; exact hp
      · exact h i (by omega)
    · intro h
      exact ⟨fun i hi => h i (by omega), h n (by omega)⟩
def sumN (f : Nat → Nat) : Nat → Nat
  | 0 => 0
  | n + 1 => sumN f n + f n
theorem sumN_congr {f g : Nat → Nat} : ∀ n, (∀ i, i < n → f i = g i) → sumN f n = sumN g n := by
  intro n
  induction n with
  | zero => intro _; rfl
  | succ n ih => intro h; rw [sumN, sumN, ih (fun i hi => h i (by omega)), h n (by omega)]
theorem sumN_z {f : Nat → Nat} : ∀ n, (∀ i, i < n → f i = 0) → sumN f n = 0 := by
  intro n
  induction n with
  | zero => intro _; rfl
  | succ n ih => intro h; rw [sumN, ih (fun i hi => h i (by omega)), h n (by omega)]
theorem sumN_one {f : Nat → Nat} {k : Nat} : ∀ n, k < n → (∀ i, i < n → i ≠ k → f i = 0) → sumN f n = f k := by
  intro n
  induction n with
  | zero => intro h; exact absurd h (Nat.not_lt_zero k)
  | succ n ih =>
    intro hk h
    rw [sumN]
    by_cases hkn : k = n
    · subst hkn
      rw [sumN_z k (fun i hi => h i (by omega) (by omega)), Nat.zero_add]
    · rw [ih (by omega) (fun i hi => h i (by omega)), h n (by omega) (fun q => hkn q.symm), Nat.add_zero]
theorem cnt_z {P : Nat → Bool} : ∀ n, (∀ i, i < n → P i = false) → cnt P n = 0 := by
  intro n
  induction n with
  | zero => intro _; rfl
  | succ n ih => intro h; rw [cnt, ih (fun i hi => h i (by omega)), h n (by omega), if_neg (by decide)]
theorem b_or (a b : Nat) : nI a ||| nI b = nI (a ||| b) := by
  apply Int32.toBitVec_inj.1
  show BitVec.ofNat 32 a ||| BitVec.ofNat 32 b = BitVec.ofNat 32 (a ||| b)
  apply BitVec.eq_of_getLsbD_eq
  intro i hi
  simp [hi]
theorem b_and (a b : Nat) : nI a &&& nI b = nI (a &&& b) := by
  apply Int32.toBitVec_inj.1
  show BitVec.ofNat 32 a &&& BitVec.ofNat 32 b = BitVec.ofNat 32 (a &&& b)
  apply BitVec.eq_of_getLsbD_eq
  intro i hi
  simp [hi]
theorem b_bit : ∀ v, v < 31 → (1 : Int32) <<< (nI v &&& 31) = nI (2 ^ v) := by decide +kernel
theorem b_sh : ∀ p, p < 31 → ((nI p &&& 31).toBitVec.smod 32).toNat = p := by decide +kernel
theorem e_bit5 {n p : Nat} (hn : n < 2 ^ 31) (hp : p < 31) : f_X5_hasBit (nI n) (nI p) = bI (n.testBit p) := by
  unfold f_X5_hasBit
  have hd : n / 2 ^ p < 2 ^ 31 := Nat.lt_of_le_of_lt (Nat.div_le_self _ _) hn
  rw [pk_shrN hn _ p (b_sh p hp), Nat.testBit_eq_decide_div_mod_eq]
  generalize n / 2 ^ p = q at hd
  have ha : nI q &&& 1 = nI (q % 2) := pk_andN (by omega) 1 (by decide)
  rw [ha]
  by_cases h : q % 2 = 1
  · rw [if_pos (show nI (q % 2) = 1 by rw [h]; rfl), decide_eq_true h]; rfl
  · have h0 : q % 2 = 0 := by omega
    rw [if_neg (show ¬ nI (q % 2) = 1 by rw [h0]; decide), decide_eq_false h]; rfl
theorem e_bit6 {n p : Nat} (hn : n < 2 ^ 31) (hp : p < 31) : f_X6_has (nI n) (nI p) = bI (n.testBit p) := e_bit5 hn hp
theorem p24 {v k : Nat} (h : v < k) : 2 ^ v < 2 ^ k := Nat.pow_lt_pow_right (by decide) h
