/-! items: what both make of one -/
abbrev T14 : Type := Int32 × Int32 × Int32 × Int32 × Int32 × Int32 × (Nat → Int32) × Int32 × (Nat → Int32) × Int32 × (Nat → Int32) × Int32 × (Nat → Int32) × (Nat → Int32)
abbrev T8 : Type := Int32 × Int32 × Int32 × Int32 × Int64 × Int32 × Int32 × (Nat → Int32)
/-- refused at the token that begins at s -/
def FC (X : Option T14) (s : Nat) : Prop := ∃ r, X = some r ∧ r.1 = 0 ∧ r.2.2.1 = nI s
def FR (Y : Option T8) (s : Nat) : Prop := ∃ r, Y = some r ∧ r.2.1 = nI s ∧ r.2.2.2.2.2.1 = 1
theorem must_ok {T c s t n e' s' t' n' : Int32} {w w' : Int64} {tx : Nat → Int32} (hn : f_X6_next T c s t n w tx = some (e', s', t', n', w')) : f_X6_must T c s t n w 0 tx 1 = some (e', s', t', n', w', 0) := by
  rw [f_X6_must, if_pos e00, if_neg n10, f_X6_must_J17, if_pos (Or.inl rfl), if_pos rfl, hn]
  rfl
theorem must_nx {T c s t n : Int32} {w : Int64} {tx : Nat → Int32} : f_X6_must T c s t n w 0 tx 1 = (f_X6_next T c s t n w tx).bind fun q => some (q.1, q.2.1, q.2.2.1, q.2.2.2.1, q.2.2.2.2, 0) := by
  rw [f_X6_must, if_pos e00, if_neg n10, f_X6_must_J17, if_pos (Or.inl rfl), if_pos rfl]
theorem must_no {T c s t n : Int32} {w : Int64} {tx : Nat → Int32} : f_X6_must T c s t n w 0 tx 0 = some (c, s, t, n, w, 1) := by
  rw [f_X6_must, if_pos e00, if_pos e00, f_X6_must_J17, if_pos (Or.inr rfl), if_neg n10]
theorem must_wr {T c s t n x : Int32} {w : Int64} {tx : Nat → Int32} : f_X6_must T c s t n w 1 tx x = some (c, s, t, n, w, 1) := by
  rw [f_X6_must, if_neg n10, f_X6_must_J17, if_pos (Or.inr rfl), if_neg n10]
theorem into_ok {N i : Nat} {T c s t n lo hi e' s' t' n' : Int32} {w w' : Int64} {tx row : Nat → Int32} (hN : N < 2 ^ 31) (hi2 : i < N) (ht : t = 2) (hr : f_X6_in n lo hi = 1) (hn : f_X6_next T c s t n w tx = some (e', s', t', n', w')) : f_X6_readInto N row T c s t n w 0 tx (nI i) lo hi = some (n, upd row i n, e', s', t', n', w', 0) := by
  rw [f_X6_readInto, if_pos ht, hr, if_neg n10, f_X6_readInto_J31, must_ok hn, Option.bind_some]
  dsimp only
  rw [if_pos e00, if_neg (in_row hi2 hN), nI_clamp (n := i) (by omega)]
theorem into_no {N : Nat} {T c s t n lo hi x : Int32} {w : Int64} {tx row : Nat → Int32} (hb : ¬ t = 2 ∨ f_X6_in n lo hi = 0) : f_X6_readInto N row T c s t n w 0 tx x lo hi = some (n, row, c, s, t, n, w, 1) := by
  have j : f_X6_readInto_J31 N x n row T c s t n w 0 tx 0 = some (n, row, c, s, t, n, w, 1) := by
    rw [f_X6_readInto_J31, must_no, Option.bind_some]
    dsimp only
    rw [if_neg n10]
  rw [f_X6_readInto]
  by_cases q : t = 2
  · rw [if_pos q]
    rcases hb with hb | hb
    · exact absurd q hb
    · rw [hb, if_pos e00, j]
  · rw [if_neg q, j]
theorem into_wr {N : Nat} {T c s t n lo hi x : Int32} {w : Int64} {tx row : Nat → Int32} : f_X6_readInto N row T c s t n w 1 tx x lo hi = some (n, row, c, s, t, n, w, 1) := by
  have j : ∀ y, f_X6_readInto_J31 N x n row T c s t n w 1 tx y = some (n, row, c, s, t, n, w, 1) := fun y => by
    rw [f_X6_readInto_J31, must_wr, Option.bind_some]
    dsimp only
    rw [if_neg n10]
  rw [f_X6_readInto, j, j, ite_self, ite_self]
theorem TokR_num {tk v : Nat} {t n : Int32} {w : Int64} (h : TokR tk v t n w) : (tk = 4 ∧ t = 2 ∧ n = nI v ∧ v < 100) ∨ (¬ tk = 4 ∧ ¬ t = 2) := by
  rcases h with ⟨a, b⟩ | ⟨a, b, -⟩ | ⟨a, b, d, e⟩ | ⟨a, b⟩ | ⟨a, b | ⟨b, -⟩⟩
  · exact Or.inr ⟨by omega, by rw [b]; decide⟩
  · exact Or.inr ⟨by omega, by rw [b]; decide⟩
  · exact Or.inl ⟨a, b, d, e⟩
  · exact Or.inr ⟨by omega, by rw [b]; decide⟩
  · exact Or.inr ⟨by omega, by rw [b]; decide⟩
  · exact Or.inr ⟨by omega, by rw [b]; decide⟩
theorem TokR_stop {tk v : Nat} {t n : Int32} {w : Int64} (h : TokR tk v t n w) : (tk = 5 ∧ t = 3) ∨ (¬ tk = 5 ∧ ¬ t = 3) := by
  rcases h with ⟨a, b⟩ | ⟨a, b, -⟩ | ⟨a, b, d, e⟩ | ⟨a, b⟩ | ⟨a, b | ⟨b, -⟩⟩
  · exact Or.inr ⟨by omega, by rw [b]; decide⟩
  · exact Or.inr ⟨by omega, by rw [b]; decide⟩
  · exact Or.inr ⟨by omega, by rw [b]; decide⟩
  · exact Or.inl ⟨a, b⟩
  · exact Or.inr ⟨by omega, by rw [b]; decide⟩
  · exact Or.inr ⟨by omega, by rw [b]; decide⟩
/-- a number that may be there, or not: the class' test beside the reference's -/
theorem num_case {tk v lo hi : Nat} {t n m lo' hi' v5 : Int32} {w : Int64} (h : TokR tk v t n w) (hl : lo < 100) (hh : hi < 100) (elo : lo' = nI lo) (ehi : hi' = nI hi) (hv : tk = 4 → v5 = nI v) (hm : v < 100 → v5 = nI v → m = f_X6_in (nI v) (nI lo) (nI hi)) :
    (tk = 4 ∧ t = 2 ∧ n = nI v ∧ v5 = nI v ∧ ¬ m = 0 ∧ f_X6_in n lo' hi' = 1 ∧ lo ≤ v ∧ v ≤ hi) ∨ ((¬ nI tk = 4 ∨ m = 0) ∧ (¬ t = 2 ∨ f_X6_in n lo' hi' = 0)) := by
  subst elo ehi
  rcases TokR_num h with ⟨a, b, d, e⟩ | ⟨a, b⟩
  · have hm' := hm e (hv a)
    rw [in_nI (by omega) (by omega) (by omega)] at hm'
    have hn : f_X6_in n (nI lo) (nI hi) = bI (decide (lo ≤ v) && decide (v ≤ hi)) := by rw [d, in_nI (by omega) (by omega) (by omega)]
    by_cases q : lo ≤ v ∧ v ≤ hi
    · rw [rg_t q.1 q.2] at hm' hn
      exact Or.inl ⟨a, b, d, hv a, by rw [hm']; exact n10, hn, q.1, q.2⟩
    · have f : (decide (lo ≤ v) && decide (v ≤ hi)) = false := rg_f (by omega)
      rw [f] at hm' hn
      exact Or.inr ⟨Or.inr hm', Or.inr hn⟩
  · refine Or.inr ⟨?_, Or.inl b⟩
    by_cases q : tk < 100
    · exact Or.inl fun w => a ((nI_eq (b := 4) (by omega) (by decide)).mp w)
    · exfalso
      rcases h with ⟨a, -⟩ | ⟨a, -⟩ | ⟨a, -⟩ | ⟨a, -⟩ | ⟨a, -⟩ <;> omega
theorem stop_ne {tk : Nat} (h8 : tk < 8) (h : ¬ tk = 5) : ¬ nI tk = 5 := fun w => h ((nI_eq (b := 5) (by omega) (by decide)).mp w)
theorem c_good0 {K : Int32 → Int32 → Int32 → Int32 → (Nat → Int32) → Option T14} {it am0 dm0 nm0 sm0 am dm nm sm x5 nx st tt vl E S V : Int32} {nT n : Nat} {t5 ac dc nc sc rd : Nat → Int32} (h5 : f_X3_readToken (nI nT) nx st tt vl t5 = some (E, S, 4, V)) (hn : ¬ f_X5_at 4 tabNUMBERS it ≤ x5) (hm : ¬ f_X1_mayBe rd it x5 V = 0) : f_X1_readItem_L48r0 K it (nI nT) t5 am0 am ac dm0 dm dc nm0 nm nc sm0 sm sc (n + 1) x5 nx st tt vl rd = f_X1_readItem_L48r0 K it (nI nT) t5 am0 am ac dm0 dm dc nm0 nm nc sm0 sm sc n (x5 + 1) E S 4 V (f_X5_put 4 rd x5 V) := by
  rw [f_X1_readItem_L48r0, if_neg hn, h5, Option.bind_some]
  dsimp only
  rw [if_pos rfl, if_neg hm]
theorem c_bad0 {K : Int32 → Int32 → Int32 → Int32 → (Nat → Int32) → Option T14} {it am0 dm0 nm0 sm0 am dm nm sm x5 nx st tt vl E S V : Int32} {nT n : Nat} {t5 ac dc nc sc rd : Nat → Int32} {TK : Int32} (h5 : f_X3_readToken (nI nT) nx st tt vl t5 = some (E, S, TK, V)) (hn : ¬ f_X5_at 4 tabNUMBERS it ≤ x5) (hb : ¬ TK = 4 ∨ f_X1_mayBe rd it x5 V = 0) : ∃ r, f_X1_readItem_L48r0 K it (nI nT) t5 am0 am ac dm0 dm dc nm0 nm nc sm0 sm sc (n + 1) x5 nx st tt vl rd = some r ∧ r.1 = 0 ∧ r.2.2.1 = S := by
  rw [f_X1_readItem_L48r0, if_neg hn, h5, Option.bind_some]
  dsimp only
  by_cases q : TK = 4
  · rcases hb with hb | hb
    · exact absurd q hb
    · rw [if_pos q, if_pos hb]
      exact ⟨_, rfl, rfl, rfl⟩
  · rw [if_neg q]
    exact ⟨_, rfl, rfl, rfl⟩
theorem c_zero0 {K : Int32 → Int32 → Int32 → Int32 → (Nat → Int32) → Option T14} {it am0 dm0 nm0 sm0 am dm nm sm nx st tt vl : Int32} {nT n : Nat} {t5 ac dc nc sc rd : Nat → Int32} : f_X1_readItem_L48r0 K it (nI nT) t5 am0 am ac dm0 dm dc nm0 nm nc sm0 sm sc n 0 nx st tt vl rd = f_X1_readItem_L48r0 K it (nI nT) t5 am0 am ac dm0 dm dc nm0 nm nc sm0 sm sc n (nI 0) nx st tt vl rd := rfl
theorem c_done0 {K : Int32 → Int32 → Int32 → Int32 → (Nat → Int32) → Option T14} {it am0 dm0 nm0 sm0 am dm nm sm x5 nx st tt vl : Int32} {nT n : Nat} {t5 ac dc nc sc rd : Nat → Int32} (hn : f_X5_at 4 tabNUMBERS it ≤ x5) : f_X1_readItem_L48r0 K it (nI nT) t5 am0 am ac dm0 dm dc nm0 nm nc sm0 sm sc (n + 1) x5 nx st tt vl rd = K nx st tt vl rd := by
  rw [f_X1_readItem_L48r0, if_pos hn]
theorem c_good1 {K : Int32 → Int32 → Int32 → Int32 → (Nat → Int32) → Option T14} {it am0 dm0 nm0 sm0 am dm nm sm x5 nx st tt vl E S V : Int32} {nT n : Nat} {t5 ac dc nc sc rd : Nat → Int32} (h5 : f_X3_readToken (nI nT) nx st tt vl t5 = some (E, S, 4, V)) (hn : ¬ f_X5_at 4 tabNUMBERS it ≤ x5) (hm : ¬ f_X1_mayBe rd it x5 V = 0) : f_X1_readItem_L48r1 K it (nI nT) t5 am0 am ac dm0 dm dc nm0 nm nc sm0 sm sc (n + 1) x5 nx st tt vl rd = f_X1_readItem_L48r1 K it (nI nT) t5 am0 am ac dm0 dm dc nm0 nm nc sm0 sm sc n (x5 + 1) E S 4 V (f_X5_put 4 rd x5 V) := by
  rw [f_X1_readItem_L48r1, if_neg hn, h5, Option.bind_some]
  dsimp only
  rw [if_pos rfl, if_neg hm]
theorem c_bad1 {K : Int32 → Int32 → Int32 → Int32 → (Nat → Int32) → Option T14} {it am0 dm0 nm0 sm0 am dm nm sm x5 nx st tt vl E S V : Int32} {nT n : Nat} {t5 ac dc nc sc rd : Nat → Int32} {TK : Int32} (h5 : f_X3_readToken (nI nT) nx st tt vl t5 = some (E, S, TK, V)) (hn : ¬ f_X5_at 4 tabNUMBERS it ≤ x5) (hb : ¬ TK = 4 ∨ f_X1_mayBe rd it x5 V = 0) : ∃ r, f_X1_readItem_L48r1 K it (nI nT) t5 am0 am ac dm0 dm dc nm0 nm nc sm0 sm sc (n + 1) x5 nx st tt vl rd = some r ∧ r.1 = 0 ∧ r.2.2.1 = S := by
  rw [f_X1_readItem_L48r1, if_neg hn, h5, Option.bind_some]
  dsimp only
  by_cases q : TK = 4
  · rcases hb with hb | hb
    · exact absurd q hb
    · rw [if_pos q, if_pos hb]
      exact ⟨_, rfl, rfl, rfl⟩
  · rw [if_neg q]
    exact ⟨_, rfl, rfl, rfl⟩
theorem c_zero1 {K : Int32 → Int32 → Int32 → Int32 → (Nat → Int32) → Option T14} {it am0 dm0 nm0 sm0 am dm nm sm nx st tt vl : Int32} {nT n : Nat} {t5 ac dc nc sc rd : Nat → Int32} : f_X1_readItem_L48r1 K it (nI nT) t5 am0 am ac dm0 dm dc nm0 nm nc sm0 sm sc n 0 nx st tt vl rd = f_X1_readItem_L48r1 K it (nI nT) t5 am0 am ac dm0 dm dc nm0 nm nc sm0 sm sc n (nI 0) nx st tt vl rd := rfl
theorem c_done1 {K : Int32 → Int32 → Int32 → Int32 → (Nat → Int32) → Option T14} {it am0 dm0 nm0 sm0 am dm nm sm x5 nx st tt vl : Int32} {nT n : Nat} {t5 ac dc nc sc rd : Nat → Int32} (hn : f_X5_at 4 tabNUMBERS it ≤ x5) : f_X1_readItem_L48r1 K it (nI nT) t5 am0 am ac dm0 dm dc nm0 nm nc sm0 sm sc (n + 1) x5 nx st tt vl rd = K nx st tt vl rd := by
  rw [f_X1_readItem_L48r1, if_pos hn]
theorem c_good2 {K : Int32 → Int32 → Int32 → Int32 → (Nat → Int32) → Option T14} {it am0 dm0 nm0 sm0 am dm nm sm x5 nx st tt vl E S V : Int32} {nT n : Nat} {t5 ac dc nc sc rd : Nat → Int32} (h5 : f_X3_readToken (nI nT) nx st tt vl t5 = some (E, S, 4, V)) (hn : ¬ f_X5_at 4 tabNUMBERS it ≤ x5) (hm : ¬ f_X1_mayBe rd it x5 V = 0) : f_X1_readItem_L48r2 K it (nI nT) t5 am0 am ac dm0 dm dc nm0 nm nc sm0 sm sc (n + 1) x5 nx st tt vl rd = f_X1_readItem_L48r2 K it (nI nT) t5 am0 am ac dm0 dm dc nm0 nm nc sm0 sm sc n (x5 + 1) E S 4 V (f_X5_put 4 rd x5 V) := by
  rw [f_X1_readItem_L48r2, if_neg hn, h5, Option.bind_some]
  dsimp only
  rw [if_pos rfl, if_neg hm]
theorem c_bad2 {K : Int32 → Int32 → Int32 → Int32 → (Nat → Int32) → Option T14} {it am0 dm0 nm0 sm0 am dm nm sm x5 nx st tt vl E S V : Int32} {nT n : Nat} {t5 ac dc nc sc rd : Nat → Int32} {TK : Int32} (h5 : f_X3_readToken (nI nT) nx st tt vl t5 = some (E, S, TK, V)) (hn : ¬ f_X5_at 4 tabNUMBERS it ≤ x5) (hb : ¬ TK = 4 ∨ f_X1_mayBe rd it x5 V = 0) : ∃ r, f_X1_readItem_L48r2 K it (nI nT) t5 am0 am ac dm0 dm dc nm0 nm nc sm0 sm sc (n + 1) x5 nx st tt vl rd = some r ∧ r.1 = 0 ∧ r.2.2.1 = S := by
  rw [f_X1_readItem_L48r2, if_neg hn, h5, Option.bind_some]
  dsimp only
  by_cases q : TK = 4
  · rcases hb with hb | hb
    · exact absurd q hb
    · rw [if_pos q, if_pos hb]
      exact ⟨_, rfl, rfl, rfl⟩
  · rw [if_neg q]
    exact ⟨_, rfl, rfl, rfl⟩
theorem c_zero2 {K : Int32 → Int32 → Int32 → Int32 → (Nat → Int32) → Option T14} {it am0 dm0 nm0 sm0 am dm nm sm nx st tt vl : Int32} {nT n : Nat} {t5 ac dc nc sc rd : Nat → Int32} : f_X1_readItem_L48r2 K it (nI nT) t5 am0 am ac dm0 dm dc nm0 nm nc sm0 sm sc n 0 nx st tt vl rd = f_X1_readItem_L48r2 K it (nI nT) t5 am0 am ac dm0 dm dc nm0 nm nc sm0 sm sc n (nI 0) nx st tt vl rd := rfl
theorem c_done2 {K : Int32 → Int32 → Int32 → Int32 → (Nat → Int32) → Option T14} {it am0 dm0 nm0 sm0 am dm nm sm x5 nx st tt vl : Int32} {nT n : Nat} {t5 ac dc nc sc rd : Nat → Int32} (hn : f_X5_at 4 tabNUMBERS it ≤ x5) : f_X1_readItem_L48r2 K it (nI nT) t5 am0 am ac dm0 dm dc nm0 nm nc sm0 sm sc (n + 1) x5 nx st tt vl rd = K nx st tt vl rd := by
  rw [f_X1_readItem_L48r2, if_pos hn]
theorem c_good3 {K : Int32 → Int32 → Int32 → Int32 → (Nat → Int32) → Option T14} {it am0 dm0 nm0 sm0 am dm nm sm x5 nx st tt vl E S V : Int32} {nT n : Nat} {t5 ac dc nc sc rd : Nat → Int32} (h5 : f_X3_readToken (nI nT) nx st tt vl t5 = some (E, S, 4, V)) (hn : ¬ f_X5_at 4 tabNUMBERS it ≤ x5) (hm : ¬ f_X1_mayBe rd it x5 V = 0) : f_X1_readItem_L48r3 K it (nI nT) t5 am0 am ac dm0 dm dc nm0 nm nc sm0 sm sc (n + 1) x5 nx st tt vl rd = f_X1_readItem_L48r3 K it (nI nT) t5 am0 am ac dm0 dm dc nm0 nm nc sm0 sm sc n (x5 + 1) E S 4 V (f_X5_put 4 rd x5 V) := by
  rw [f_X1_readItem_L48r3, if_neg hn, h5, Option.bind_some]
  dsimp only
  rw [if_pos rfl, if_neg hm]
theorem c_bad3 {K : Int32 → Int32 → Int32 → Int32 → (Nat → Int32) → Option T14} {it am0 dm0 nm0 sm0 am dm nm sm x5 nx st tt vl E S V : Int32} {nT n : Nat} {t5 ac dc nc sc rd : Nat → Int32} {TK : Int32} (h5 : f_X3_readToken (nI nT) nx st tt vl t5 = some (E, S, TK, V)) (hn : ¬ f_X5_at 4 tabNUMBERS it ≤ x5) (hb : ¬ TK = 4 ∨ f_X1_mayBe rd it x5 V = 0) : ∃ r, f_X1_readItem_L48r3 K it (nI nT) t5 am0 am ac dm0 dm dc nm0 nm nc sm0 sm sc (n + 1) x5 nx st tt vl rd = some r ∧ r.1 = 0 ∧ r.2.2.1 = S := by
  rw [f_X1_readItem_L48r3, if_neg hn, h5, Option.bind_some]
  dsimp only
  by_cases q : TK = 4
  · rcases hb with hb | hb
    · exact absurd q hb
    · rw [if_pos q, if_pos hb]
      exact ⟨_, rfl, rfl, rfl⟩
  · rw [if_neg q]
    exact ⟨_, rfl, rfl, rfl⟩
theorem c_zero3 {K : Int32 → Int32 → Int32 → Int32 → (Nat → Int32) → Option T14} {it am0 dm0 nm0 sm0 am dm nm sm nx st tt vl : Int32} {nT n : Nat} {t5 ac dc nc sc rd : Nat → Int32} : f_X1_readItem_L48r3 K it (nI nT) t5 am0 am ac dm0 dm dc nm0 nm nc sm0 sm sc n 0 nx st tt vl rd = f_X1_readItem_L48r3 K it (nI nT) t5 am0 am ac dm0 dm dc nm0 nm nc sm0 sm sc n (nI 0) nx st tt vl rd := rfl
theorem c_done3 {K : Int32 → Int32 → Int32 → Int32 → (Nat → Int32) → Option T14} {it am0 dm0 nm0 sm0 am dm nm sm x5 nx st tt vl : Int32} {nT n : Nat} {t5 ac dc nc sc rd : Nat → Int32} (hn : f_X5_at 4 tabNUMBERS it ≤ x5) : f_X1_readItem_L48r3 K it (nI nT) t5 am0 am ac dm0 dm dc nm0 nm nc sm0 sm sc (n + 1) x5 nx st tt vl rd = K nx st tt vl rd := by
  rw [f_X1_readItem_L48r3, if_pos hn]
theorem mb00 {rd : Nat → Int32} {x : Int32} : f_X1_mayBe rd (nI 0) (nI 0) x = f_X6_in x 0 7 := by
  rw [f_X1_mayBe, if_neg (show ¬ nI 0 = 1 by decide), f_X1_mayBe_J46, if_neg (show ¬ nI 0 = 2 by decide), f_X1_mayBe_J68, show f_X5_at 16 tabMOST (nI 0 * 4 + nI 0) = 7 by decide +kernel, show f_X5_at 16 tabLEAST (nI 0 * 4 + nI 0) = 0 by decide +kernel]
  rfl
theorem mb10 {rd : Nat → Int32} {x : Int32} : f_X1_mayBe rd (nI 1) (nI 0) x = f_X6_in x 0 7 := by
  rw [f_X1_mayBe, if_pos (show nI 1 = 1 from rfl), if_neg (show ¬ nI 0 = 3 by decide), f_X1_mayBe_J46, if_neg (show ¬ nI 1 = 2 by decide), f_X1_mayBe_J68, show f_X5_at 16 tabMOST (nI 1 * 4 + nI 0) = 7 by decide +kernel, show f_X5_at 16 tabLEAST (nI 1 * 4 + nI 0) = 0 by decide +kernel]
  rfl
theorem mb11 {rd : Nat → Int32} {x : Int32} : f_X1_mayBe rd (nI 1) (nI 1) x = f_X6_in x 0 9 := by
  rw [f_X1_mayBe, if_pos (show nI 1 = 1 from rfl), if_neg (show ¬ nI 1 = 3 by decide), f_X1_mayBe_J46, if_neg (show ¬ nI 1 = 2 by decide), f_X1_mayBe_J68, show f_X5_at 16 tabMOST (nI 1 * 4 + nI 1) = 9 by decide +kernel, show f_X5_at 16 tabLEAST (nI 1 * 4 + nI 1) = 0 by decide +kernel]
  rfl
theorem mb12 {rd : Nat → Int32} {x : Int32} : f_X1_mayBe rd (nI 1) (nI 2) x = f_X6_in x 0 23 := by
  rw [f_X1_mayBe, if_pos (show nI 1 = 1 from rfl), if_neg (show ¬ nI 2 = 3 by decide), f_X1_mayBe_J46, if_neg (show ¬ nI 1 = 2 by decide), f_X1_mayBe_J68, show f_X5_at 16 tabMOST (nI 1 * 4 + nI 2) = 23 by decide +kernel, show f_X5_at 16 tabLEAST (nI 1 * 4 + nI 2) = 0 by decide +kernel]
  rfl
theorem mb13 {rd : Nat → Int32} {x : Int32} : f_X1_mayBe rd (nI 1) (nI 3) x = f_X6_in x (f_X5_at 4 rd 2) 23 := by
  rw [f_X1_mayBe, if_pos (show nI 1 = 1 from rfl), if_pos (show nI 3 = 3 from rfl), f_X1_mayBe_J46, if_neg (show ¬ nI 1 = 2 by decide), f_X1_mayBe_J68, show f_X5_at 16 tabMOST (nI 1 * 4 + nI 3) = 23 by decide +kernel]
  rfl
theorem mb20 {rd : Nat → Int32} {x : Int32} : f_X1_mayBe rd (nI 2) (nI 0) x = f_X6_in x 0 9 := by
  rw [f_X1_mayBe, if_neg (show ¬ nI 2 = 1 by decide), f_X1_mayBe_J46, if_pos (show nI 2 = 2 from rfl), if_neg (show ¬ nI 0 = 2 by decide), f_X1_mayBe_J68, show f_X5_at 16 tabMOST (nI 2 * 4 + nI 0) = 9 by decide +kernel, show f_X5_at 16 tabLEAST (nI 2 * 4 + nI 0) = 0 by decide +kernel]
  rfl
theorem mb21 {rd : Nat → Int32} {x : Int32} : f_X1_mayBe rd (nI 2) (nI 1) x = f_X6_in x 1 12 := by
  rw [f_X1_mayBe, if_neg (show ¬ nI 2 = 1 by decide), f_X1_mayBe_J46, if_pos (show nI 2 = 2 from rfl), if_neg (show ¬ nI 1 = 2 by decide), f_X1_mayBe_J68, show f_X5_at 16 tabMOST (nI 2 * 4 + nI 1) = 12 by decide +kernel, show f_X5_at 16 tabLEAST (nI 2 * 4 + nI 1) = 1 by decide +kernel]
  rfl
theorem mb22 {rd : Nat → Int32} {x : Int32} : f_X1_mayBe rd (nI 2) (nI 2) x = f_X6_in x 0 (f_X5_at 4 rd 1 - 1) := by
  rw [f_X1_mayBe, if_neg (show ¬ nI 2 = 1 by decide), f_X1_mayBe_J46, if_pos (show nI 2 = 2 from rfl), if_pos (show nI 2 = 2 from rfl), f_X1_mayBe_J68, show f_X5_at 16 tabLEAST (nI 2 * 4 + nI 2) = 0 by decide +kernel]
  rfl
theorem mb30 {rd : Nat → Int32} {x : Int32} : f_X1_mayBe rd (nI 3) (nI 0) x = f_X6_in x 0 7 := by
  rw [f_X1_mayBe, if_neg (show ¬ nI 3 = 1 by decide), f_X1_mayBe_J46, if_neg (show ¬ nI 3 = 2 by decide), f_X1_mayBe_J68, show f_X5_at 16 tabMOST (nI 3 * 4 + nI 0) = 7 by decide +kernel, show f_X5_at 16 tabLEAST (nI 3 * 4 + nI 0) = 0 by decide +kernel]
  rfl
theorem mb31 {rd : Nat → Int32} {x : Int32} : f_X1_mayBe rd (nI 3) (nI 1) x = f_X6_in x 1 9 := by
  rw [f_X1_mayBe, if_neg (show ¬ nI 3 = 1 by decide), f_X1_mayBe_J46, if_neg (show ¬ nI 3 = 2 by decide), f_X1_mayBe_J68, show f_X5_at 16 tabMOST (nI 3 * 4 + nI 1) = 9 by decide +kernel, show f_X5_at 16 tabLEAST (nI 3 * 4 + nI 1) = 1 by decide +kernel]
  rfl
def DR (many : Int32) (cells : Nat → Int32) (n6 : Int32) (sm : Nat → Int32) (k : Nat) : Prop := k ≤ 5 ∧ many = nI k ∧ n6 = nI k ∧ ∀ d, d < k → cells (4 * d) = sm d ∧ inN (sm d) 8
theorem DR_push {c row : Nat → Int32} {n6 b d e : Int32} {k v : Nat} (h : DR (nI k) c n6 row k) (hk : k < 5) (hv : v < 8) : DR (nI (k + 1)) (rowU c k (nI v) b d e) (nI (k + 1)) (upd row k (nI v)) (k + 1) := by
  refine ⟨by omega, rfl, rfl, fun i hi => ?_⟩
  by_cases q : i = k
  · subst q
    rw [pk_us, rowU_0]
    exact ⟨rfl, v, hv, rfl⟩
  · rw [pk_un (by omega), rowU_n (by omega)]
    exact h.2.2.2 i (by omega)
theorem RSp_push {c row : Nat → Int32} {n6 : Int32} {k a b d e : Nat} (h : RSp (nI k) c n6 row k) (hk : k < 5) (ha : a < 8) (hb : b < 10) (hd : d < 24) (he : e < 24) : RSp (nI (k + 1)) (rowU c k (nI a) (nI b) (nI d) (nI e)) (nI (k + 1)) (upd (upd (upd (upd row (4 * k) (nI a)) (4 * k + 1) (nI b)) (4 * k + 2) (nI d)) (4 * k + 3) (nI e)) (k + 1) := by
  refine ⟨by omega, rfl, rfl, fun i hi => ?_⟩
  have er : upd (upd (upd (upd row (4 * k) (nI a)) (4 * k + 1) (nI b)) (4 * k + 2) (nI d)) (4 * k + 3) (nI e) = rowU row k (nI a) (nI b) (nI d) (nI e) := rfl
  rw [er]
  by_cases q : i = k
  · subst q
    rw [rowU_0, rowU_1, rowU_2, rowU_3, rowU_0, rowU_1, rowU_2, rowU_3]
    exact ⟨⟨rfl, a, ha, rfl⟩, ⟨rfl, b, hb, rfl⟩, ⟨rfl, d, hd, rfl⟩, ⟨rfl, e, he, rfl⟩⟩
  · rw [rowU_n (by omega), rowU_n (by omega), rowU_n (by omega), rowU_n (by omega), rowU_n (by omega), rowU_n (by omega), rowU_n (by omega), rowU_n (by omega)]
    exact h.2.2.2 i (by omega)
theorem RNo_push {c row : Nat → Int32} {n6 e : Int32} {k a b d : Nat} (h : RNo (nI k) c n6 row k) (hk : k < 3) (ha : a < 10) (hb : b < 13) (hb0 : 1 ≤ b) (hd : d < 12) : RNo (nI (k + 1)) (rowU c k (nI a) (nI b) (nI d) e) (nI (k + 1)) (upd (upd (upd row (3 * k) (nI a)) (3 * k + 1) (nI b)) (3 * k + 2) (nI d)) (k + 1) := by
  refine ⟨by omega, rfl, rfl, fun i hi => ?_⟩
  by_cases q : i = k
  · subst q
    rw [rowU_0, rowU_1, rowU_2, pk_un (show 3 * i ≠ 3 * i + 2 by omega), pk_un (show 3 * i ≠ 3 * i + 1 by omega), pk_us, pk_un (show 3 * i + 1 ≠ 3 * i + 2 by omega), pk_us, pk_us]
    exact ⟨⟨rfl, a, ha, rfl⟩, ⟨rfl, ⟨b, hb, rfl⟩, nI_ne0 (by omega) (by omega)⟩, ⟨rfl, d, hd, rfl⟩⟩
  · have u : ∀ j, j < 3 * k → upd (upd (upd row (3 * k) (nI a)) (3 * k + 1) (nI b)) (3 * k + 2) (nI d) j = row j := fun j hj => by rw [pk_un (by omega), pk_un (by omega), pk_un (by omega)]
    rw [rowU_n (by omega), rowU_n (by omega), rowU_n (by omega), u _ (by omega), u _ (by omega), u _ (by omega)]
    exact h.2.2.2 i (by omega)
theorem RAs_push {c row : Nat → Int32} {n6 d e : Int32} {k a b : Nat} (h : RAs (nI k) c n6 row k) (hk : k < 5) (ha : a < 8) (hb : b < 10) (hb0 : 1 ≤ b) : RAs (nI (k + 1)) (rowU c k (nI a) (nI b) d e) (nI (k + 1)) (upd (upd row (2 * k) (nI a)) (2 * k + 1) (nI b)) (k + 1) := by
  refine ⟨by omega, rfl, rfl, fun i hi => ?_⟩
  by_cases q : i = k
  · subst q
    rw [rowU_0, rowU_1, pk_un (show 2 * i ≠ 2 * i + 1 by omega), pk_us, pk_us]
    exact ⟨⟨rfl, a, ha, rfl⟩, ⟨rfl, ⟨b, hb, rfl⟩, nI_ne0 (by omega) (by omega)⟩⟩
  · have u : ∀ j, j < 2 * k → upd (upd row (2 * k) (nI a)) (2 * k + 1) (nI b) j = row j := fun j hj => by rw [pk_un (by omega), pk_un (by omega)]
    rw [rowU_n (by omega), rowU_n (by omega), u _ (by omega), u _ (by omega)]
    exact h.2.2.2 i (by omega)
def IT0 (X : Option T14) (Y : Option T8) (nT c k : Nat) (am nm sm : Int32) (ac nc sc : Nat → Int32) (t6 : Nat → Int32) : Prop :=
  (∃ s, s ≤ nT ∧ FC X s ∧ FR Y s) ∨ (∃ (e : Nat) (x y z : Int32) (cells' row' rd' : Nat → Int32) (xs xt xn : Int32) (xw : Int64), c < e ∧ e ≤ nT ∧ X = some (1, nI e, x, y, z, am, ac, nI (k + 1), cells', nm, nc, sm, sc, rd') ∧ (Y = (f_X6_next (nI nT) (nI e) xs xt xn xw t6).bind fun q => some (q.1, q.2.1, q.2.2.1, q.2.2.2.1, q.2.2.2.2, 0, nI (k + 1), row')) ∧ DR (nI (k + 1)) cells' (nI (k + 1)) row' (k + 1))
theorem item0 {nT c s0 k : Nat} {t5 t6 : Nat → Int32} {am nm sm v0 t0 n0 n6 : Int32} {ac dc nc sc rd row : Nat → Int32} {w0 : Int64} (h : TX nT t5 t6) (hc : c ≤ nT) (hs0 : s0 ≤ nT) (hrel : DR (nI k) dc n6 row k) :
    IT0 (f_X1_readItem (nI nT) (nI c) (nI s0) (nI 0) v0 t5 5 am ac 5 (nI k) dc 3 nm nc 5 sm sc rd) (f_X6_readDish (nI nT) (nI c) (nI s0) t0 n0 w0 0 (nI k) row t6) nT c k am nm sm ac nc sc t6 := by
  have h0 := h.1
  have hkM := hrel.1
  rw [f_X1_readItem, if_pos (show nI 0 ≤ 3 by decide), if_pos (show nI 0 = 0 from rfl)]
  unfold f_X6_readDish
  by_cases hf : k = 5
  · have f1 : f_X2_isFull 5 (nI k) = 1 := e_full1 (mo := 5) (by omega) (by omega)
    rw [f1, if_neg n10, if_pos (show (5 : Int32) ≤ nI k from nI_le (a := 5) (by omega) (by omega)), f_X6_readDish_J14, must_no, Option.bind_some]
    dsimp only
    rw [if_neg n10]
    exact Or.inl ⟨s0, hs0, ⟨_, rfl, rfl, rfl⟩, ⟨_, rfl, rfl, rfl⟩⟩
  have hk : k < 5 := by omega
  have f0 : f_X2_isFull 5 (nI k) = 0 := e_full0 (mo := 5) hk (by decide)
  rw [f0, if_pos e00, if_neg (show ¬ (5 : Int32) ≤ nI k from nI_ge (b := 5) hk (by decide)), f_X6_readDish_J14, show FU = 1000 from rfl, c_zero0]
  have hJ : ∀ (c s t n : Int32) (w : Int64) (r : Nat → Int32), (if t = 3 then f_X6_readDish_J55 (nI nT) c s t n w 1 (nI k) r t6 1 else f_X6_readDish_J55 (nI nT) c s t n w 1 (nI k) r t6 0) = some (c, s, t, n, w, 1, nI k + 1, r) := fun c s t n w r => by
    rw [f_X6_readDish_J55, f_X6_readDish_J55, must_wr, must_wr, Option.bind_some, ite_self]
  obtain ⟨e1, s1, tk1, v1, t1, n1, w1, u1, a1, b1, c1, d1, g1, p1, q1, R1, U1⟩ := tok h hc (nI s0) (nI 0) v0 (nI s0) t0 n0 w0
  rw [must_ok q1, Option.bind_some]
  dsimp only
  rw [if_pos e00]
  rcases num_case (m := f_X1_mayBe (rd) (nI 0) (nI 0) u1) (lo := 0) (hi := 7) (lo' := 0) (hi' := 7) R1 (by omega) (by omega) rfl rfl U1 (fun _ hv => by rw [mb00, hv]; rfl) with ⟨x1, y1, z1, o1, m1, r61, l1, k1⟩ | ⟨bad5, bad6⟩
  rotate_left
  · refine Or.inl ⟨s1, by omega, c_bad0 p1 (by decide +kernel) bad5, ?_⟩
    rw [into_no bad6, Option.bind_some]
    dsimp only
    rw [hJ]
    exact ⟨_, rfl, rfl, rfl⟩
  subst x1
  rw [c_good0 p1 (by decide +kernel) m1, show nI 0 + 1 = nI 1 from rfl, o1, e_put (n := 4) (k := 0) (by decide) (by decide)]
  obtain ⟨e2, s2, tk2, v2, t2, n2, w2, u2, a2, b2, c2, d2, g2, p2, q2, R2, U2⟩ := tok h c1 (nI s1) 4 (nI v1) (nI s1) t1 n1 w1
  rw [into_ok (i := k) (by decide) (by omega) y1 r61 q2, Option.bind_some]
  dsimp only
  rw [z1]
  rw [c_done0 (by decide +kernel), f_X1_readItem_X107r0, p2, Option.bind_some]
  dsimp only
  rcases TokR_stop R2 with ⟨hx5, hy5⟩ | ⟨hx5, hy5⟩
  rotate_left
  · rw [if_neg (stop_ne g2 hx5), if_neg hy5, f_X6_readDish_J55, must_no, Option.bind_some]
    exact Or.inl ⟨s2, by omega, ⟨_, rfl, rfl, rfl⟩, ⟨_, rfl, rfl, rfl⟩⟩
  subst hx5
  rw [if_pos (show nI 5 = 5 from rfl), if_pos hy5, f_X6_readDish_J55, must_nx, nI_1]
  have ea : ∀ b0 b1 b2 b3 : Int32, f_X2_add 5 (nI k) dc b0 b1 b2 b3 = (nI (k + 1), rowU dc k b0 b1 b2 b3) := fun b0 b1 b2 b3 => e_add (mo := 5) hk (by decide)
  have at0 : f_X5_at 4 (upd rd 0 (nI v1)) 0 = nI v1 := (e_at (n := 4) (k := 0) (by decide) (by decide)).trans (by rw [pk_us])
  rw [ea, at0]
  have dd := d2 (by decide)
  refine Or.inr ⟨e2, _, _, _, _, _, _, nI s2, t2, n2, w2, by omega, c2, rfl, ?_, DR_push hrel hk (by omega)⟩
  cases f_X6_next (nI nT) (nI e2) (nI s2) t2 n2 w2 t6 <;> rfl
def IT1 (X : Option T14) (Y : Option T8) (nT c k : Nat) (am dm nm : Int32) (ac dc nc : Nat → Int32) (t6 : Nat → Int32) : Prop :=
  (∃ s, s ≤ nT ∧ FC X s ∧ FR Y s) ∨ (∃ (e : Nat) (x y z : Int32) (cells' row' rd' : Nat → Int32) (xs xt xn : Int32) (xw : Int64), c < e ∧ e ≤ nT ∧ X = some (1, nI e, x, y, z, am, ac, dm, dc, nm, nc, nI (k + 1), cells', rd') ∧ (Y = (f_X6_next (nI nT) (nI e) xs xt xn xw t6).bind fun q => some (q.1, q.2.1, q.2.2.1, q.2.2.2.1, q.2.2.2.2, 0, nI (k + 1), row')) ∧ RSp (nI (k + 1)) cells' (nI (k + 1)) row' (k + 1))
theorem item1 {nT c s0 k : Nat} {t5 t6 : Nat → Int32} {am dm nm v0 t0 n0 n6 : Int32} {ac dc nc sc rd row : Nat → Int32} {w0 : Int64} (h : TX nT t5 t6) (hc : c ≤ nT) (hs0 : s0 ≤ nT) (hrel : RSp (nI k) sc n6 row k) :
    IT1 (f_X1_readItem (nI nT) (nI c) (nI s0) (nI 1) v0 t5 5 am ac 5 dm dc 3 nm nc 5 (nI k) sc rd) (f_X6_readSpeaker (nI nT) (nI c) (nI s0) t0 n0 w0 0 (nI k) row t6) nT c k am dm nm ac dc nc t6 := by
  have h0 := h.1
  have hkM := hrel.1
  rw [f_X1_readItem, if_pos (show nI 1 ≤ 3 by decide), if_neg (show ¬ nI 1 = 0 by decide), if_pos (show nI 1 = 1 from rfl)]
  unfold f_X6_readSpeaker
  by_cases hf : k = 5
  · have f1 : f_X2_isFull 5 (nI k) = 1 := e_full1 (mo := 5) (by omega) (by omega)
    rw [f1, if_neg n10, if_pos (show (5 : Int32) ≤ nI k from nI_le (a := 5) (by omega) (by omega)), f_X6_readSpeaker_J14, must_no, Option.bind_some]
    dsimp only
    rw [if_neg n10]
    exact Or.inl ⟨s0, hs0, ⟨_, rfl, rfl, rfl⟩, ⟨_, rfl, rfl, rfl⟩⟩
  have hk : k < 5 := by omega
  have f0 : f_X2_isFull 5 (nI k) = 0 := e_full0 (mo := 5) hk (by decide)
  rw [f0, if_pos e00, if_neg (show ¬ (5 : Int32) ≤ nI k from nI_ge (b := 5) hk (by decide)), f_X6_readSpeaker_J14, show FU = 1000 from rfl, c_zero1]
  have i0 : (4 : Int32) * nI k = nI (4 * k) := pk_mul 4 k
  have i1 : nI (4 * k) + 1 = nI (4 * k + 1) := nI_add _ 1
  have i2 : nI (4 * k) + 2 = nI (4 * k + 2) := nI_add _ 2
  have i3 : nI (4 * k) + 3 = nI (4 * k + 3) := nI_add _ 3
  rw [i0, i1, i2, i3]
  have hJ : ∀ (c s t n : Int32) (w : Int64) (r : Nat → Int32), (if t = 3 then f_X6_readSpeaker_J104 (nI nT) c s t n w 1 (nI k) r t6 1 else f_X6_readSpeaker_J104 (nI nT) c s t n w 1 (nI k) r t6 0) = some (c, s, t, n, w, 1, nI k + 1, r) := fun c s t n w r => by
    rw [f_X6_readSpeaker_J104, f_X6_readSpeaker_J104, must_wr, must_wr, Option.bind_some, ite_self]
  obtain ⟨e1, s1, tk1, v1, t1, n1, w1, u1, a1, b1, c1, d1, g1, p1, q1, R1, U1⟩ := tok h hc (nI s0) (nI 1) v0 (nI s0) t0 n0 w0
  rw [must_ok q1, Option.bind_some]
  dsimp only
  rw [if_pos e00]
  rcases num_case (m := f_X1_mayBe (rd) (nI 1) (nI 0) u1) (lo := 0) (hi := 7) (lo' := 0) (hi' := 7) R1 (by omega) (by omega) rfl rfl U1 (fun _ hv => by rw [mb10, hv]; rfl) with ⟨x1, y1, z1, o1, m1, r61, l1, k1⟩ | ⟨bad5, bad6⟩
  rotate_left
  · refine Or.inl ⟨s1, by omega, c_bad1 p1 (by decide +kernel) bad5, ?_⟩
    rw [into_no bad6, Option.bind_some]
    dsimp only
    rw [into_wr, Option.bind_some]
    dsimp only
    rw [into_wr, Option.bind_some]
    dsimp only
    rw [into_wr, Option.bind_some]
    dsimp only
    rw [hJ]
    exact ⟨_, rfl, rfl, rfl⟩
  subst x1
  rw [c_good1 p1 (by decide +kernel) m1, show nI 0 + 1 = nI 1 from rfl, o1, e_put (n := 4) (k := 0) (by decide) (by decide)]
  obtain ⟨e2, s2, tk2, v2, t2, n2, w2, u2, a2, b2, c2, d2, g2, p2, q2, R2, U2⟩ := tok h c1 (nI s1) 4 (nI v1) (nI s1) t1 n1 w1
  rw [into_ok (i := 4 * k) (by decide) (by omega) y1 r61 q2, Option.bind_some]
  dsimp only
  rw [z1]
  rcases num_case (m := f_X1_mayBe (upd rd 0 (nI v1)) (nI 1) (nI 1) u2) (lo := 0) (hi := 9) (lo' := 0) (hi' := 9) R2 (by omega) (by omega) rfl rfl U2 (fun _ hv => by rw [mb11, hv]; rfl) with ⟨x2, y2, z2, o2, m2, r62, l2, k2⟩ | ⟨bad5, bad6⟩
  rotate_left
  · refine Or.inl ⟨s2, by omega, c_bad1 p2 (by decide +kernel) bad5, ?_⟩
    rw [into_no bad6, Option.bind_some]
    dsimp only
    rw [into_wr, Option.bind_some]
    dsimp only
    rw [into_wr, Option.bind_some]
    dsimp only
    rw [hJ]
    exact ⟨_, rfl, rfl, rfl⟩
  subst x2
  rw [c_good1 p2 (by decide +kernel) m2, show nI 1 + 1 = nI 2 from rfl, o2, e_put (n := 4) (k := 1) (by decide) (by decide)]
  obtain ⟨e3, s3, tk3, v3, t3, n3, w3, u3, a3, b3, c3, d3, g3, p3, q3, R3, U3⟩ := tok h c2 (nI s2) 4 (nI v2) (nI s2) t2 n2 w2
  rw [into_ok (i := 4 * k + 1) (by decide) (by omega) y2 r62 q3, Option.bind_some]
  dsimp only
  rw [z2]
  rcases num_case (m := f_X1_mayBe (upd (upd rd 0 (nI v1)) 1 (nI v2)) (nI 1) (nI 2) u3) (lo := 0) (hi := 23) (lo' := 0) (hi' := 23) R3 (by omega) (by omega) rfl rfl U3 (fun _ hv => by rw [mb12, hv]; rfl) with ⟨x3, y3, z3, o3, m3, r63, l3, k3⟩ | ⟨bad5, bad6⟩
  rotate_left
  · refine Or.inl ⟨s3, by omega, c_bad1 p3 (by decide +kernel) bad5, ?_⟩
    rw [into_no bad6, Option.bind_some]
    dsimp only
    rw [into_wr, Option.bind_some]
    dsimp only
    rw [hJ]
    exact ⟨_, rfl, rfl, rfl⟩
  subst x3
  rw [c_good1 p3 (by decide +kernel) m3, show nI 2 + 1 = nI 3 from rfl, o3, e_put (n := 4) (k := 2) (by decide) (by decide)]
  obtain ⟨e4, s4, tk4, v4, t4, n4, w4, u4, a4, b4, c4, d4, g4, p4, q4, R4, U4⟩ := tok h c3 (nI s3) 4 (nI v3) (nI s3) t3 n3 w3
  rw [into_ok (i := 4 * k + 2) (by decide) (by omega) y3 r63 q4, Option.bind_some]
  dsimp only
  rw [z3]
  have r2 : f_X5_at 4 (upd (upd (upd rd 0 (nI v1)) 1 (nI v2)) 2 (nI v3)) 2 = nI v3 := (e_at (n := 4) (k := 2) (by decide) (by decide)).trans pk_us
  rcases num_case (m := f_X1_mayBe (upd (upd (upd rd 0 (nI v1)) 1 (nI v2)) 2 (nI v3)) (nI 1) (nI 3) u4) (lo := v3) (hi := 23) (lo' := (nI v3)) (hi' := 23) R4 (by omega) (by omega) rfl rfl U4 (fun _ hv => by rw [mb13, r2, hv]; rfl) with ⟨x4, y4, z4, o4, m4, r64, l4, k4⟩ | ⟨bad5, bad6⟩
  rotate_left
  · refine Or.inl ⟨s4, by omega, c_bad1 p4 (by decide +kernel) bad5, ?_⟩
    rw [into_no bad6, Option.bind_some]
    dsimp only
    rw [hJ]
    exact ⟨_, rfl, rfl, rfl⟩
  subst x4
  rw [c_good1 p4 (by decide +kernel) m4, show nI 3 + 1 = nI 4 from rfl, o4, e_put (n := 4) (k := 3) (by decide) (by decide)]
  obtain ⟨e5, s5, tk5, v5, t5, n5, w5, u5, a5, b5, c5, d5, g5, p5, q5, R5, U5⟩ := tok h c4 (nI s4) 4 (nI v4) (nI s4) t4 n4 w4
  rw [into_ok (i := 4 * k + 3) (by decide) (by omega) y4 r64 q5, Option.bind_some]
  dsimp only
  rw [z4]
  rw [c_done1 (by decide +kernel), f_X1_readItem_X107r1, p5, Option.bind_some]
  dsimp only
  rcases TokR_stop R5 with ⟨hx5, hy5⟩ | ⟨hx5, hy5⟩
  rotate_left
  · rw [if_neg (stop_ne g5 hx5), if_neg hy5, f_X6_readSpeaker_J104, must_no, Option.bind_some]
    exact Or.inl ⟨s5, by omega, ⟨_, rfl, rfl, rfl⟩, ⟨_, rfl, rfl, rfl⟩⟩
  subst hx5
  rw [if_pos (show nI 5 = 5 from rfl), if_pos hy5, f_X6_readSpeaker_J104, must_nx, nI_1]
  have ea : ∀ b0 b1 b2 b3 : Int32, f_X2_add 5 (nI k) sc b0 b1 b2 b3 = (nI (k + 1), rowU sc k b0 b1 b2 b3) := fun b0 b1 b2 b3 => e_add (mo := 5) hk (by decide)
  have at0 : f_X5_at 4 (upd (upd (upd (upd rd 0 (nI v1)) 1 (nI v2)) 2 (nI v3)) 3 (nI v4)) 0 = nI v1 := (e_at (n := 4) (k := 0) (by decide) (by decide)).trans (by rw [pk_un (show 0 ≠ 3 by decide), pk_un (show 0 ≠ 2 by decide), pk_un (show 0 ≠ 1 by decide), pk_us])
  have at1 : f_X5_at 4 (upd (upd (upd (upd rd 0 (nI v1)) 1 (nI v2)) 2 (nI v3)) 3 (nI v4)) 1 = nI v2 := (e_at (n := 4) (k := 1) (by decide) (by decide)).trans (by rw [pk_un (show 1 ≠ 3 by decide), pk_un (show 1 ≠ 2 by decide), pk_us])
  have at2 : f_X5_at 4 (upd (upd (upd (upd rd 0 (nI v1)) 1 (nI v2)) 2 (nI v3)) 3 (nI v4)) 2 = nI v3 := (e_at (n := 4) (k := 2) (by decide) (by decide)).trans (by rw [pk_un (show 2 ≠ 3 by decide), pk_us])
  have at3 : f_X5_at 4 (upd (upd (upd (upd rd 0 (nI v1)) 1 (nI v2)) 2 (nI v3)) 3 (nI v4)) 3 = nI v4 := (e_at (n := 4) (k := 3) (by decide) (by decide)).trans (by rw [pk_us])
  rw [ea, at0, at1, at2, at3]
  have dd := d5 (by decide)
  refine Or.inr ⟨e5, _, _, _, _, _, _, nI s5, t5, n5, w5, by omega, c5, rfl, ?_, RSp_push hrel hk (by omega) (by omega) (by omega) (by omega)⟩
  cases f_X6_next (nI nT) (nI e5) (nI s5) t5 n5 w5 t6 <;> rfl
def IT2 (X : Option T14) (Y : Option T8) (nT c k : Nat) (am dm sm : Int32) (ac dc sc : Nat → Int32) (t6 : Nat → Int32) : Prop :=
  (∃ s, s ≤ nT ∧ FC X s ∧ FR Y s) ∨ (∃ (e : Nat) (x y z : Int32) (cells' row' rd' : Nat → Int32) (xs xt xn : Int32) (xw : Int64), c < e ∧ e ≤ nT ∧ X = some (1, nI e, x, y, z, am, ac, dm, dc, nI (k + 1), cells', sm, sc, rd') ∧ (Y = (f_X6_next (nI nT) (nI e) xs xt xn xw t6).bind fun q => some (q.1, q.2.1, q.2.2.1, q.2.2.2.1, q.2.2.2.2, 0, nI (k + 1), row')) ∧ RNo (nI (k + 1)) cells' (nI (k + 1)) row' (k + 1))
theorem item2 {nT c s0 k : Nat} {t5 t6 : Nat → Int32} {am dm sm v0 t0 n0 n6 : Int32} {ac dc nc sc rd row : Nat → Int32} {w0 : Int64} (h : TX nT t5 t6) (hc : c ≤ nT) (hs0 : s0 ≤ nT) (hrel : RNo (nI k) nc n6 row k) :
    IT2 (f_X1_readItem (nI nT) (nI c) (nI s0) (nI 2) v0 t5 5 am ac 5 dm dc 3 (nI k) nc 5 sm sc rd) (f_X6_readNoise (nI nT) (nI c) (nI s0) t0 n0 w0 0 (nI k) row t6) nT c k am dm sm ac dc sc t6 := by
  have h0 := h.1
  have hkM := hrel.1
  rw [f_X1_readItem, if_pos (show nI 2 ≤ 3 by decide), if_neg (show ¬ nI 2 = 0 by decide), if_neg (show ¬ nI 2 = 1 by decide), if_pos (show nI 2 = 2 from rfl)]
  unfold f_X6_readNoise
  by_cases hf : k = 3
  · have f1 : f_X2_isFull 3 (nI k) = 1 := e_full1 (mo := 3) (by omega) (by omega)
    rw [f1, if_neg n10, if_pos (show (3 : Int32) ≤ nI k from nI_le (a := 3) (by omega) (by omega)), f_X6_readNoise_J14, must_no, Option.bind_some]
    dsimp only
    rw [if_neg n10]
    exact Or.inl ⟨s0, hs0, ⟨_, rfl, rfl, rfl⟩, ⟨_, rfl, rfl, rfl⟩⟩
  have hk : k < 3 := by omega
  have f0 : f_X2_isFull 3 (nI k) = 0 := e_full0 (mo := 3) hk (by decide)
  rw [f0, if_pos e00, if_neg (show ¬ (3 : Int32) ≤ nI k from nI_ge (b := 3) hk (by decide)), f_X6_readNoise_J14, show FU = 1000 from rfl, c_zero2]
  have i0 : (3 : Int32) * nI k = nI (3 * k) := pk_mul 3 k
  have i1 : nI (3 * k) + 1 = nI (3 * k + 1) := nI_add _ 1
  have i2 : nI (3 * k) + 2 = nI (3 * k + 2) := nI_add _ 2
  rw [i0, i1, i2]
  have hJ : ∀ (c s t n : Int32) (w : Int64) (r : Nat → Int32), (if t = 3 then f_X6_readNoise_J90 (nI nT) c s t n w 1 (nI k) r t6 1 else f_X6_readNoise_J90 (nI nT) c s t n w 1 (nI k) r t6 0) = some (c, s, t, n, w, 1, nI k + 1, r) := fun c s t n w r => by
    rw [f_X6_readNoise_J90, f_X6_readNoise_J90, must_wr, must_wr, Option.bind_some, ite_self]
  obtain ⟨e1, s1, tk1, v1, t1, n1, w1, u1, a1, b1, c1, d1, g1, p1, q1, R1, U1⟩ := tok h hc (nI s0) (nI 2) v0 (nI s0) t0 n0 w0
  rw [must_ok q1, Option.bind_some]
  dsimp only
  rw [if_pos e00]
  rcases num_case (m := f_X1_mayBe (rd) (nI 2) (nI 0) u1) (lo := 0) (hi := 9) (lo' := 0) (hi' := 9) R1 (by omega) (by omega) rfl rfl U1 (fun _ hv => by rw [mb20, hv]; rfl) with ⟨x1, y1, z1, o1, m1, r61, l1, k1⟩ | ⟨bad5, bad6⟩
  rotate_left
  · refine Or.inl ⟨s1, by omega, c_bad2 p1 (by decide +kernel) bad5, ?_⟩
    rw [into_no bad6, Option.bind_some]
    dsimp only
    rw [into_wr, Option.bind_some]
    dsimp only
    rw [into_wr, Option.bind_some]
    dsimp only
    rw [hJ]
    exact ⟨_, rfl, rfl, rfl⟩
  subst x1
  rw [c_good2 p1 (by decide +kernel) m1, show nI 0 + 1 = nI 1 from rfl, o1, e_put (n := 4) (k := 0) (by decide) (by decide)]
  obtain ⟨e2, s2, tk2, v2, t2, n2, w2, u2, a2, b2, c2, d2, g2, p2, q2, R2, U2⟩ := tok h c1 (nI s1) 4 (nI v1) (nI s1) t1 n1 w1
  rw [into_ok (i := 3 * k) (by decide) (by omega) y1 r61 q2, Option.bind_some]
  dsimp only
  rw [z1]
  rcases num_case (m := f_X1_mayBe (upd rd 0 (nI v1)) (nI 2) (nI 1) u2) (lo := 1) (hi := 12) (lo' := 1) (hi' := 12) R2 (by omega) (by omega) rfl rfl U2 (fun _ hv => by rw [mb21, hv]; rfl) with ⟨x2, y2, z2, o2, m2, r62, l2, k2⟩ | ⟨bad5, bad6⟩
  rotate_left
  · refine Or.inl ⟨s2, by omega, c_bad2 p2 (by decide +kernel) bad5, ?_⟩
    rw [into_no bad6, Option.bind_some]
    dsimp only
    rw [into_wr, Option.bind_some]
    dsimp only
    rw [hJ]
    exact ⟨_, rfl, rfl, rfl⟩
  subst x2
  rw [c_good2 p2 (by decide +kernel) m2, show nI 1 + 1 = nI 2 from rfl, o2, e_put (n := 4) (k := 1) (by decide) (by decide)]
  obtain ⟨e3, s3, tk3, v3, t3, n3, w3, u3, a3, b3, c3, d3, g3, p3, q3, R3, U3⟩ := tok h c2 (nI s2) 4 (nI v2) (nI s2) t2 n2 w2
  rw [into_ok (i := 3 * k + 1) (by decide) (by omega) y2 r62 q3, Option.bind_some]
  dsimp only
  rw [z2]
  have r1 : f_X5_at 4 (upd (upd rd 0 (nI v1)) 1 (nI v2)) 1 = nI v2 := (e_at (n := 4) (k := 1) (by decide) (by decide)).trans pk_us
  have r1' : nI v2 - 1 = nI (v2 - 1) := pk_sub (b := 1) (by omega)
  rcases num_case (m := f_X1_mayBe (upd (upd rd 0 (nI v1)) 1 (nI v2)) (nI 2) (nI 2) u3) (lo := 0) (hi := v2 - 1) (lo' := 0) (hi' := (nI v2 - 1)) R3 (by omega) (by omega) rfl r1' U3 (fun _ hv => by rw [mb22, r1, r1', hv]; rfl) with ⟨x3, y3, z3, o3, m3, r63, l3, k3⟩ | ⟨bad5, bad6⟩
  rotate_left
  · refine Or.inl ⟨s3, by omega, c_bad2 p3 (by decide +kernel) bad5, ?_⟩
    rw [into_no bad6, Option.bind_some]
    dsimp only
    rw [hJ]
    exact ⟨_, rfl, rfl, rfl⟩
  subst x3
  rw [c_good2 p3 (by decide +kernel) m3, show nI 2 + 1 = nI 3 from rfl, o3, e_put (n := 4) (k := 2) (by decide) (by decide)]
  obtain ⟨e4, s4, tk4, v4, t4, n4, w4, u4, a4, b4, c4, d4, g4, p4, q4, R4, U4⟩ := tok h c3 (nI s3) 4 (nI v3) (nI s3) t3 n3 w3
  rw [into_ok (i := 3 * k + 2) (by decide) (by omega) y3 r63 q4, Option.bind_some]
  dsimp only
  rw [z3]
  rw [c_done2 (by decide +kernel), f_X1_readItem_X107r2, p4, Option.bind_some]
  dsimp only
  rcases TokR_stop R4 with ⟨hx5, hy5⟩ | ⟨hx5, hy5⟩
  rotate_left
  · rw [if_neg (stop_ne g4 hx5), if_neg hy5, f_X6_readNoise_J90, must_no, Option.bind_some]
    exact Or.inl ⟨s4, by omega, ⟨_, rfl, rfl, rfl⟩, ⟨_, rfl, rfl, rfl⟩⟩
  subst hx5
  rw [if_pos (show nI 5 = 5 from rfl), if_pos hy5, f_X6_readNoise_J90, must_nx, nI_1]
  have ea : ∀ b0 b1 b2 b3 : Int32, f_X2_add 3 (nI k) nc b0 b1 b2 b3 = (nI (k + 1), rowU nc k b0 b1 b2 b3) := fun b0 b1 b2 b3 => e_add (mo := 3) hk (by decide)
  have at0 : f_X5_at 4 (upd (upd (upd rd 0 (nI v1)) 1 (nI v2)) 2 (nI v3)) 0 = nI v1 := (e_at (n := 4) (k := 0) (by decide) (by decide)).trans (by rw [pk_un (show 0 ≠ 2 by decide), pk_un (show 0 ≠ 1 by decide), pk_us])
  have at1 : f_X5_at 4 (upd (upd (upd rd 0 (nI v1)) 1 (nI v2)) 2 (nI v3)) 1 = nI v2 := (e_at (n := 4) (k := 1) (by decide) (by decide)).trans (by rw [pk_un (show 1 ≠ 2 by decide), pk_us])
  have at2 : f_X5_at 4 (upd (upd (upd rd 0 (nI v1)) 1 (nI v2)) 2 (nI v3)) 2 = nI v3 := (e_at (n := 4) (k := 2) (by decide) (by decide)).trans (by rw [pk_us])
  rw [ea, at0, at1, at2]
  have dd := d4 (by decide)
  refine Or.inr ⟨e4, _, _, _, _, _, _, nI s4, t4, n4, w4, by omega, c4, rfl, ?_, RNo_push hrel hk (by omega) (by omega) (by omega) (by omega)⟩
  cases f_X6_next (nI nT) (nI e4) (nI s4) t4 n4 w4 t6 <;> rfl
def IT3 (X : Option T14) (Y : Option T8) (nT c k : Nat) (dm nm sm : Int32) (dc nc sc : Nat → Int32) (t6 : Nat → Int32) : Prop :=
  (∃ s, s ≤ nT ∧ FC X s ∧ FR Y s) ∨ (∃ (e : Nat) (x y z : Int32) (cells' row' rd' : Nat → Int32) (xs xt xn : Int32) (xw : Int64), c < e ∧ e ≤ nT ∧ X = some (1, nI e, x, y, z, nI (k + 1), cells', dm, dc, nm, nc, sm, sc, rd') ∧ (Y = (f_X6_next (nI nT) (nI e) xs xt xn xw t6).bind fun q => some (q.1, q.2.1, q.2.2.1, q.2.2.2.1, q.2.2.2.2, 0, nI (k + 1), row')) ∧ RAs (nI (k + 1)) cells' (nI (k + 1)) row' (k + 1))
theorem item3 {nT c s0 k : Nat} {t5 t6 : Nat → Int32} {dm nm sm v0 t0 n0 n6 : Int32} {ac dc nc sc rd row : Nat → Int32} {w0 : Int64} (h : TX nT t5 t6) (hc : c ≤ nT) (hs0 : s0 ≤ nT) (hrel : RAs (nI k) ac n6 row k) :
    IT3 (f_X1_readItem (nI nT) (nI c) (nI s0) (nI 3) v0 t5 5 (nI k) ac 5 dm dc 3 nm nc 5 sm sc rd) (f_X6_readAsker (nI nT) (nI c) (nI s0) t0 n0 w0 0 (nI k) row t6) nT c k dm nm sm dc nc sc t6 := by
  have h0 := h.1
  have hkM := hrel.1
  rw [f_X1_readItem, if_pos (show nI 3 ≤ 3 by decide), if_neg (show ¬ nI 3 = 0 by decide), if_neg (show ¬ nI 3 = 1 by decide), if_neg (show ¬ nI 3 = 2 by decide)]
  unfold f_X6_readAsker
  by_cases hf : k = 5
  · have f1 : f_X2_isFull 5 (nI k) = 1 := e_full1 (mo := 5) (by omega) (by omega)
    rw [f1, if_neg n10, if_pos (show (5 : Int32) ≤ nI k from nI_le (a := 5) (by omega) (by omega)), f_X6_readAsker_J14, must_no, Option.bind_some]
    dsimp only
    rw [if_neg n10]
    exact Or.inl ⟨s0, hs0, ⟨_, rfl, rfl, rfl⟩, ⟨_, rfl, rfl, rfl⟩⟩
  have hk : k < 5 := by omega
  have f0 : f_X2_isFull 5 (nI k) = 0 := e_full0 (mo := 5) hk (by decide)
  rw [f0, if_pos e00, if_neg (show ¬ (5 : Int32) ≤ nI k from nI_ge (b := 5) hk (by decide)), f_X6_readAsker_J14, show FU = 1000 from rfl, c_zero3]
  have i0 : (2 : Int32) * nI k = nI (2 * k) := pk_mul 2 k
  have i1 : nI (2 * k) + 1 = nI (2 * k + 1) := nI_add _ 1
  rw [i0, i1]
  have hJ : ∀ (c s t n : Int32) (w : Int64) (r : Nat → Int32), (if t = 3 then f_X6_readAsker_J77 (nI nT) c s t n w 1 (nI k) r t6 1 else f_X6_readAsker_J77 (nI nT) c s t n w 1 (nI k) r t6 0) = some (c, s, t, n, w, 1, nI k + 1, r) := fun c s t n w r => by
    rw [f_X6_readAsker_J77, f_X6_readAsker_J77, must_wr, must_wr, Option.bind_some, ite_self]
  obtain ⟨e1, s1, tk1, v1, t1, n1, w1, u1, a1, b1, c1, d1, g1, p1, q1, R1, U1⟩ := tok h hc (nI s0) (nI 3) v0 (nI s0) t0 n0 w0
  rw [must_ok q1, Option.bind_some]
  dsimp only
  rw [if_pos e00]
  rcases num_case (m := f_X1_mayBe (rd) (nI 3) (nI 0) u1) (lo := 0) (hi := 7) (lo' := 0) (hi' := 7) R1 (by omega) (by omega) rfl rfl U1 (fun _ hv => by rw [mb30, hv]; rfl) with ⟨x1, y1, z1, o1, m1, r61, l1, k1⟩ | ⟨bad5, bad6⟩
  rotate_left
  · refine Or.inl ⟨s1, by omega, c_bad3 p1 (by decide +kernel) bad5, ?_⟩
    rw [into_no bad6, Option.bind_some]
    dsimp only
    rw [into_wr, Option.bind_some]
    dsimp only
    rw [hJ]
    exact ⟨_, rfl, rfl, rfl⟩
  subst x1
  rw [c_good3 p1 (by decide +kernel) m1, show nI 0 + 1 = nI 1 from rfl, o1, e_put (n := 4) (k := 0) (by decide) (by decide)]
  obtain ⟨e2, s2, tk2, v2, t2, n2, w2, u2, a2, b2, c2, d2, g2, p2, q2, R2, U2⟩ := tok h c1 (nI s1) 4 (nI v1) (nI s1) t1 n1 w1
  rw [into_ok (i := 2 * k) (by decide) (by omega) y1 r61 q2, Option.bind_some]
  dsimp only
  rw [z1]
  rcases num_case (m := f_X1_mayBe (upd rd 0 (nI v1)) (nI 3) (nI 1) u2) (lo := 1) (hi := 9) (lo' := 1) (hi' := 9) R2 (by omega) (by omega) rfl rfl U2 (fun _ hv => by rw [mb31, hv]; rfl) with ⟨x2, y2, z2, o2, m2, r62, l2, k2⟩ | ⟨bad5, bad6⟩
  rotate_left
  · refine Or.inl ⟨s2, by omega, c_bad3 p2 (by decide +kernel) bad5, ?_⟩
    rw [into_no bad6, Option.bind_some]
    dsimp only
    rw [hJ]
    exact ⟨_, rfl, rfl, rfl⟩
  subst x2
  rw [c_good3 p2 (by decide +kernel) m2, show nI 1 + 1 = nI 2 from rfl, o2, e_put (n := 4) (k := 1) (by decide) (by decide)]
  obtain ⟨e3, s3, tk3, v3, t3, n3, w3, u3, a3, b3, c3, d3, g3, p3, q3, R3, U3⟩ := tok h c2 (nI s2) 4 (nI v2) (nI s2) t2 n2 w2
  rw [into_ok (i := 2 * k + 1) (by decide) (by omega) y2 r62 q3, Option.bind_some]
  dsimp only
  rw [z2]
  rw [c_done3 (by decide +kernel), f_X1_readItem_X107r3, p3, Option.bind_some]
  dsimp only
  rcases TokR_stop R3 with ⟨hx5, hy5⟩ | ⟨hx5, hy5⟩
  rotate_left
  · rw [if_neg (stop_ne g3 hx5), if_neg hy5, f_X6_readAsker_J77, must_no, Option.bind_some]
    exact Or.inl ⟨s3, by omega, ⟨_, rfl, rfl, rfl⟩, ⟨_, rfl, rfl, rfl⟩⟩
  subst hx5
  rw [if_pos (show nI 5 = 5 from rfl), if_pos hy5, f_X6_readAsker_J77, must_nx, nI_1]
  have ea : ∀ b0 b1 b2 b3 : Int32, f_X2_add 5 (nI k) ac b0 b1 b2 b3 = (nI (k + 1), rowU ac k b0 b1 b2 b3) := fun b0 b1 b2 b3 => e_add (mo := 5) hk (by decide)
  have at0 : f_X5_at 4 (upd (upd rd 0 (nI v1)) 1 (nI v2)) 0 = nI v1 := (e_at (n := 4) (k := 0) (by decide) (by decide)).trans (by rw [pk_un (show 0 ≠ 1 by decide), pk_us])
  have at1 : f_X5_at 4 (upd (upd rd 0 (nI v1)) 1 (nI v2)) 1 = nI v2 := (e_at (n := 4) (k := 1) (by decide) (by decide)).trans (by rw [pk_us])
  rw [ea, at0, at1]
  have dd := d3 (by decide)
  refine Or.inr ⟨e3, _, _, _, _, _, _, nI s3, t3, n3, w3, by omega, c3, rfl, ?_, RAs_push hrel hk (by omega) (by omega) (by omega)⟩
  cases f_X6_next (nI nT) (nI e3) (nI s3) t3 n3 w3 t6 <;> rfl
