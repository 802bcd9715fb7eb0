/-! the text, read by both -/
abbrev R14 : Type := Int32 × Int32 × Int32 × Int32 × Int64 × Int32 × Int32 × Int32 × Int32 × Int32 × (Nat → Int32) × (Nat → Int32) × (Nat → Int32) × (Nat → Int32)
def FRI (Y : Option R14) (s : Nat) : Prop := ∃ r, Y = some r ∧ r.2.1 = nI s ∧ r.2.2.2.2.2.1 = 1
def RW (A D N S : Nat) (ac dc nc sc ra rm rn rs : Nat → Int32) : Prop := RAs (nI A) ac (nI A) ra A ∧ DR (nI D) dc (nI D) rm D ∧ RNo (nI N) nc (nI N) rn N ∧ RSp (nI S) sc (nI S) rs S
theorem lg_self (x : Int64) : lg_cmp x x = 0 := by
  unfold lg_cmp
  by_cases h : x > x
  · have := Int64.lt_iff_toInt_lt.mp h
    omega
  · rw [if_neg h, if_pos rfl]
theorem lg_ne {x y : Int64} (h : ¬ x = y) : ¬ lg_cmp x y = 0 := by
  unfold lg_cmp
  by_cases q : x > y
  · rw [if_pos q]; decide
  · rw [if_neg q, if_neg h]; decide
def OK1 (X : Option T14) (Y : Option R14) (nT c : Nat) (t6 : Nat → Int32) : Prop :=
  ∃ (e A D N S : Nat) (x y z : Int32) (ac dc nc sc rd ra rm rn rs : Nat → Int32) (xs xt xn : Int32) (xw : Int64), c < e ∧ e ≤ nT ∧ X = some (1, nI e, x, y, z, nI A, ac, nI D, dc, nI N, nc, nI S, sc, rd) ∧ (Y = (f_X6_next (nI nT) (nI e) xs xt xn xw t6).bind fun q => some (q.1, q.2.1, q.2.2.1, q.2.2.2.1, q.2.2.2.2, 0, nI D, nI S, nI N, nI A, ra, rm, rn, rs)) ∧ RW A D N S ac dc nc sc ra rm rn rs
theorem one_item {nT c s0 tk v A D N S : Nat} {t5 t6 : Nat → Int32} {v0 t n : Int32} {w : Int64} {ac dc nc sc rd ra rm rn rs : Nat → Int32} (h : TX nT t5 t6) (hc : c ≤ nT) (hs0 : s0 ≤ nT) (hR : TokR tk v t n w) (h6 : tk ≠ 6) (hW : RW A D N S ac dc nc sc ra rm rn rs) :
    (∃ s, s ≤ nT ∧ FC (f_X1_readItem (nI nT) (nI c) (nI s0) (nI tk) v0 t5 5 (nI A) ac 5 (nI D) dc 3 (nI N) nc 5 (nI S) sc rd) s ∧ FRI (f_X6_readItem (nI nT) (nI c) (nI s0) t n w 0 (nI D) (nI S) (nI N) (nI A) ra rm rn rs t6) s) ∨
    OK1 (f_X1_readItem (nI nT) (nI c) (nI s0) (nI tk) v0 t5 5 (nI A) ac 5 (nI D) dc 3 (nI N) nc 5 (nI S) sc rd) (f_X6_readItem (nI nT) (nI c) (nI s0) t n w 0 (nI D) (nI S) (nI N) (nI A) ra rm rn rs t6) nT c t6 := by
  obtain ⟨hA, hD, hN, hS⟩ := id hW
  have other : 3 < tk → tk < 8 → (∀ k, k < 4 → ¬ (t = 1 ∧ w = lN (wd k))) → FC (f_X1_readItem (nI nT) (nI c) (nI s0) (nI tk) v0 t5 5 (nI A) ac 5 (nI D) dc 3 (nI N) nc 5 (nI S) sc rd) s0 ∧ FRI (f_X6_readItem (nI nT) (nI c) (nI s0) t n w 0 (nI D) (nI S) (nI N) (nI A) ra rm rn rs t6) s0 := fun h3 h8 hno => by
    constructor
    · rw [f_X1_readItem, if_neg (show ¬ nI tk ≤ 3 from nI_ge (a := 3) h3 (by omega))]
      exact ⟨_, rfl, rfl, rfl⟩
    · have j : ∀ x : Int64, ¬ x = 1684632424 → ¬ x = 32493203050161522 → ¬ x = 474315584357 → ¬ x = 418548245874 → FRI (f_X6_readItem_J16 (nI nT) (nI c) (nI s0) t n w 0 (nI D) (nI S) (nI N) (nI A) ra rm rn rs t6 x) s0 := fun x x0 x1 x2 x3 => by
        rw [f_X6_readItem_J16, if_neg (lg_ne x0), if_neg (lg_ne x1), if_neg (lg_ne x2), if_neg (lg_ne x3)]
        exact ⟨_, rfl, rfl, rfl⟩
      rw [f_X6_readItem]
      by_cases q : t = 1
      · rw [if_pos q]
        exact j w (fun z => hno 0 (by decide) ⟨q, z⟩) (fun z => hno 1 (by decide) ⟨q, z⟩) (fun z => hno 2 (by decide) ⟨q, z⟩) (fun z => hno 3 (by decide) ⟨q, z⟩)
      · rw [if_neg q]
        exact j 0 (by decide) (by decide) (by decide) (by decide)
  rcases hR with ⟨a, b⟩ | ⟨htk, ht, hw⟩ | ⟨a, b, -⟩ | ⟨a, b⟩ | ⟨a, b | ⟨b, x, hx, hx63, hne⟩⟩
  · exact absurd a h6
  · subst hw
    rw [f_X6_readItem, if_pos ht, f_X6_readItem_J16]
    rcases (show tk = 0 ∨ tk = 1 ∨ tk = 2 ∨ tk = 3 by omega) with rfl | rfl | rfl | rfl
    · rw [if_pos (show lg_cmp (lN (wd 0)) 1684632424 = 0 by decide +kernel)]
      rcases item0 (rd := rd) (v0 := v0) (t0 := t) (n0 := n) (w0 := lN (wd 0)) (am := nI A) (nm := nI N) (sm := nI S) (ac := ac) (nc := nc) (sc := sc) h hc hs0 hD with ⟨s, hs, hF, r, hr, hr2, hr3⟩ | ⟨e, x, y, z, c', r', d', xs, xt, xn, xw, g1, g2, g3, g4, g5⟩
      · refine Or.inl ⟨s, hs, hF, ?_⟩
        rw [hr, Option.bind_some]
        exact ⟨_, rfl, hr2, hr3⟩
      · refine Or.inr ⟨e, A, D + 1, N, S, x, y, z, ac, c', nc, sc, d', ra, r', rn, rs, xs, xt, xn, xw, g1, g2, g3, ?_, hA, g5, hN, hS⟩
        rw [g4]
        cases f_X6_next (nI nT) (nI e) xs xt xn xw t6 <;> rfl
    · rw [if_neg (show ¬ lg_cmp (lN (wd 1)) 1684632424 = 0 by decide +kernel), if_pos (show lg_cmp (lN (wd 1)) 32493203050161522 = 0 by decide +kernel)]
      rcases item1 (rd := rd) (v0 := v0) (t0 := t) (n0 := n) (w0 := lN (wd 1)) (am := nI A) (dm := nI D) (nm := nI N) (ac := ac) (dc := dc) (nc := nc) h hc hs0 hS with ⟨s, hs, hF, r, hr, hr2, hr3⟩ | ⟨e, x, y, z, c', r', d', xs, xt, xn, xw, g1, g2, g3, g4, g5⟩
      · refine Or.inl ⟨s, hs, hF, ?_⟩
        rw [hr, Option.bind_some]
        exact ⟨_, rfl, hr2, hr3⟩
      · refine Or.inr ⟨e, A, D, N, S + 1, x, y, z, ac, dc, nc, c', d', ra, rm, rn, r', xs, xt, xn, xw, g1, g2, g3, ?_, hA, hD, hN, g5⟩
        rw [g4]
        cases f_X6_next (nI nT) (nI e) xs xt xn xw t6 <;> rfl
    · rw [if_neg (show ¬ lg_cmp (lN (wd 2)) 1684632424 = 0 by decide +kernel), if_neg (show ¬ lg_cmp (lN (wd 2)) 32493203050161522 = 0 by decide +kernel), if_pos (show lg_cmp (lN (wd 2)) 474315584357 = 0 by decide +kernel)]
      rcases item2 (rd := rd) (v0 := v0) (t0 := t) (n0 := n) (w0 := lN (wd 2)) (am := nI A) (dm := nI D) (sm := nI S) (ac := ac) (dc := dc) (sc := sc) h hc hs0 hN with ⟨s, hs, hF, r, hr, hr2, hr3⟩ | ⟨e, x, y, z, c', r', d', xs, xt, xn, xw, g1, g2, g3, g4, g5⟩
      · refine Or.inl ⟨s, hs, hF, ?_⟩
        rw [hr, Option.bind_some]
        exact ⟨_, rfl, hr2, hr3⟩
      · refine Or.inr ⟨e, A, D, N + 1, S, x, y, z, ac, dc, c', sc, d', ra, rm, r', rs, xs, xt, xn, xw, g1, g2, g3, ?_, hA, hD, g5, hS⟩
        rw [g4]
        cases f_X6_next (nI nT) (nI e) xs xt xn xw t6 <;> rfl
    · rw [if_neg (show ¬ lg_cmp (lN (wd 3)) 1684632424 = 0 by decide +kernel), if_neg (show ¬ lg_cmp (lN (wd 3)) 32493203050161522 = 0 by decide +kernel), if_neg (show ¬ lg_cmp (lN (wd 3)) 474315584357 = 0 by decide +kernel), if_pos (show lg_cmp (lN (wd 3)) 418548245874 = 0 by decide +kernel)]
      rcases item3 (rd := rd) (v0 := v0) (t0 := t) (n0 := n) (w0 := lN (wd 3)) (dm := nI D) (nm := nI N) (sm := nI S) (dc := dc) (nc := nc) (sc := sc) h hc hs0 hA with ⟨s, hs, hF, r, hr, hr2, hr3⟩ | ⟨e, x, y, z, c', r', d', xs, xt, xn, xw, g1, g2, g3, g4, g5⟩
      · refine Or.inl ⟨s, hs, hF, ?_⟩
        rw [hr, Option.bind_some]
        exact ⟨_, rfl, hr2, hr3⟩
      · refine Or.inr ⟨e, A + 1, D, N, S, x, y, z, c', dc, nc, sc, d', r', rm, rn, rs, xs, xt, xn, xw, g1, g2, g3, ?_, g5, hD, hN, hS⟩
        rw [g4]
        cases f_X6_next (nI nT) (nI e) xs xt xn xw t6 <;> rfl
  · exact Or.inl ⟨s0, hs0, other (by omega) (by omega) (fun k hk q => by rw [b] at q; exact absurd q.1 (by decide))⟩
  · exact Or.inl ⟨s0, hs0, other (by omega) (by omega) (fun k hk q => by rw [b] at q; exact absurd q.1 (by decide))⟩
  · exact Or.inl ⟨s0, hs0, other (by omega) (by omega) (fun k hk q => by rw [b] at q; exact absurd q.1 (by decide))⟩
  · refine Or.inl ⟨s0, hs0, other (by omega) (by omega) (fun k hk q => ?_)⟩
    have hk63 : wd k < 2 ^ 63 := by
      rcases (show k = 0 ∨ k = 1 ∨ k = 2 ∨ k = 3 by omega) with rfl | rfl | rfl | rfl <;> decide
    exact hne k hk ((pk_lEQ hx63 hk63).mp (hx.symm.trans q.2))
theorem TokR_end {tk v : Nat} {t n : Int32} {w : Int64} (h : TokR tk v t n w) : (tk = 6 ∧ t = 0) ∨ (¬ tk = 6 ∧ ¬ t = 0) := by
  rcases h with ⟨a, b⟩ | ⟨a, b, -⟩ | ⟨a, b, d, e⟩ | ⟨a, b⟩ | ⟨a, b | ⟨b, -⟩⟩
  · exact Or.inl ⟨a, b⟩
  · exact Or.inr ⟨by omega, by rw [b]; decide⟩
  · exact Or.inr ⟨by omega, by rw [b]; decide⟩
  · exact Or.inr ⟨by omega, by rw [b]; decide⟩
  · exact Or.inr ⟨by omega, by rw [b]; decide⟩
  · exact Or.inr ⟨by omega, by rw [b]; decide⟩
/-- what the two loops come to: refused at s, or read whole -/
def ENDS {K : Int32 → Int32 → Int32 → Int32 → Int32 → Int64 → Int32 → Int32 → Int32 → Int32 → Int32 → (Nat → Int32) → (Nat → Int32) → (Nat → Int32) → (Nat → Int32) → Option (Int32 × Int32 × Int32 × Int32 × Int32 × Int32 × Int32 × Int32 × Int32 × Int32 × Int64 × Int32 × Int32 × Int32 × Int32 × Int32 × (Nat → Int32) × (Nat → Int32) × (Nat → Int32) × (Nat → Int32) × (Nat → Int32) × (Nat → Int32) × (Nat → Int32) × (Nat → Int32) × (Nat → Int32))} (X : Option T14) (Y : Option (Int32 × Int32 × Int32 × Int32 × Int32 × Int32 × Int32 × Int32 × Int32 × Int32 × Int64 × Int32 × Int32 × Int32 × Int32 × Int32 × (Nat → Int32) × (Nat → Int32) × (Nat → Int32) × (Nat → Int32) × (Nat → Int32) × (Nat → Int32) × (Nat → Int32) × (Nat → Int32) × (Nat → Int32))) (nT : Nat) : Prop :=
  (∃ (s : Nat) (r : T14) (a b d e : Int32) (u : Int64) (k1 k2 k3 k4 : Int32) (r1 r2 r3 r4 : Nat → Int32), s ≤ nT ∧ X = some r ∧ r.1 = -10 - nI s ∧ Y = K a b (nI s) d e u 1 k1 k2 k3 k4 r1 r2 r3 r4) ∨
  (∃ (j A D N S : Nat) (x1 x2 x3 x4 : Int32) (ac dc nc sc rd ra rm rn rs : Nat → Int32) (b s d e : Int32) (u : Int64), j ≤ nT ∧ X = some (nI j, x1, x2, x3, x4, nI A, ac, nI D, dc, nI N, nc, nI S, sc, rd) ∧ Y = K (nI j) b s d e u 0 (nI D) (nI S) (nI N) (nI A) ra rm rn rs ∧ RW A D N S ac dc nc sc ra rm rn rs)
theorem loops {K : Int32 → Int32 → Int32 → Int32 → Int32 → Int64 → Int32 → Int32 → Int32 → Int32 → Int32 → (Nat → Int32) → (Nat → Int32) → (Nat → Int32) → (Nat → Int32) → Option (Int32 × Int32 × Int32 × Int32 × Int32 × Int32 × Int32 × Int32 × Int32 × Int32 × Int64 × Int32 × Int32 × Int32 × Int32 × Int32 × (Nat → Int32) × (Nat → Int32) × (Nat → Int32) × (Nat → Int32) × (Nat → Int32) × (Nat → Int32) × (Nat → Int32) × (Nat → Int32) × (Nat → Int32))} {nT : Nat} {t5 t6 : Nat → Int32} {d_dishes d_speakers d_noises d_askers : Int32} {d_asker d_isKept d_noise d_speaker d_st : Nat → Int32} (h : TX nT t5 t6) : ∀ d (j s0 c tk v A D N S : Nat) (v0 t n : Int32) (w : Int64) (ac dc nc sc rd ra rm rn rs : Nat → Int32), nT - s0 ≤ d → j ≤ s0 → s0 ≤ c → c ≤ nT → (tk ≠ 6 → s0 < c) → tk < 8 → TokR tk v t n w → RW A D N S ac dc nc sc ra rm rn rs → ∀ n5 n6, d + 1 < n5 → d + 1 < n6 →
    ENDS (K := K) (f_X1_readItems_L25 f_X1_readItems_X50 (nI nT) t5 5 5 3 5 n5 (nI j) (nI c) (nI s0) (nI tk) v0 (nI A) ac (nI D) dc (nI N) nc (nI S) sc rd) (f_X6_valley_L36 K d_dishes d_speakers d_noises d_askers (nI nT) d_asker d_isKept d_noise d_speaker d_st t6 n6 (nI j) (nI c) (nI s0) t n w 0 (nI D) (nI S) (nI N) (nI A) ra rm rn rs) nT := by
  have h0 := h.1
  intro d
  induction d with
  | zero =>
    intro j s0 c tk v A D N S v0 t n w ac dc nc sc rd ra rm rn rs hd hj hsc hc hlt h8 hR hW n5 n6 h5 h6
    obtain ⟨n5, rfl⟩ : ∃ z, n5 = z + 1 := ⟨n5 - 1, by omega⟩
    obtain ⟨n6, rfl⟩ : ∃ z, n6 = z + 1 := ⟨n6 - 1, by omega⟩
    rcases TokR_end hR with ⟨a, b⟩ | ⟨a, b⟩
    · subst a
      rw [f_X1_readItems_L25, f_X6_valley_L36, if_pos b, if_pos (show nI 6 = 6 from rfl), ite_self]
      exact Or.inr ⟨j, A, D, N, S, _, _, _, _, ac, dc, nc, sc, rd, ra, rm, rn, rs, _, _, _, _, _, by omega, rfl, rfl, hW⟩
    · have := hlt a
      omega
  | succ d ih =>
    intro j s0 c tk v A D N S v0 t n w ac dc nc sc rd ra rm rn rs hd hj hsc hc hlt h8 hR hW n5 n6 h5 h6
    obtain ⟨n5, rfl⟩ : ∃ z, n5 = z + 1 := ⟨n5 - 1, by omega⟩
    obtain ⟨n6, rfl⟩ : ∃ z, n6 = z + 1 := ⟨n6 - 1, by omega⟩
    rcases TokR_end hR with ⟨a, b⟩ | ⟨a, b⟩
    · subst a
      rw [f_X1_readItems_L25, f_X6_valley_L36, if_pos b, if_pos (show nI 6 = 6 from rfl), ite_self]
      exact Or.inr ⟨j, A, D, N, S, _, _, _, _, ac, dc, nc, sc, rd, ra, rm, rn, rs, _, _, _, _, _, by omega, rfl, rfl, hW⟩
    · have hl := hlt a
      rw [f_X1_readItems_L25, f_X6_valley_L36, if_neg b, if_pos e00, if_neg (show ¬ (250 : Int32) ≤ nI j from nI_ge (b := 250) (by omega) (by decide)), if_neg (show ¬ nI tk = 6 from fun z => a ((nI_eq (b := 6) (by omega) (by decide)).mp z))]
      rcases one_item (s0 := s0) (v0 := v0) (rd := rd) h hc (by omega) hR a hW with ⟨s, hs, ⟨r, hr, hr1, hr2⟩, r6, hr6, hs6, hw6⟩ | ⟨e, A', D', N', S', x, y, z, ac', dc', nc', sc', rd', ra', rm', rn', rs', xs, xt, xn, xw, g1, g2, g3, g4, g5⟩
      · rw [hr, hr6, Option.bind_some, Option.bind_some, if_pos hr1, f_X1_readItems_X50]
        obtain ⟨n6, rfl⟩ : ∃ z, n6 = z + 1 := ⟨n6 - 1, by omega⟩
        rw [f_X6_valley_L36, hw6, if_neg n10, ite_self, hs6, hr2]
        exact Or.inl ⟨s, _, _, _, _, _, _, _, _, _, _, _, _, _, _, hs, rfl, rfl, rfl⟩
      · obtain ⟨e2, s2, tk2, v2, t2, n2, w2, u2, a2, b2, c2, d2, g2', p2, q2, R2, U2⟩ := tok h g2 x y z xs xt xn xw
        rw [g3, g4, q2, Option.bind_some, Option.bind_some, Option.bind_some]
        dsimp only
        rw [if_neg n10, p2, Option.bind_some]
        dsimp only
        rw [nI_1]
        exact ih (j + 1) s2 e2 tk2 v2 A' D' N' S' u2 t2 n2 w2 ac' dc' nc' sc' rd' ra' rm' rn' rs' (by omega) (by omega) b2 c2 d2 g2' R2 g5 n5 n6 (by omega) (by omega)
theorem copy_s {c0 c : Nat → Int32} {i N : Nat} (hi : i < N) (hN : N < 2 ^ 31) : (nI i).toNatClampNeg = i := nI_clamp (by omega)
theorem v209 {K : (Nat → Int32) → Option (Int32 × Int32 × Int32 × Int32 × Int32 × Int32 × Int32 × Int32 × Int32 × Int32 × Int64 × Int32 × Int32 × Int32 × Int32 × Int32 × (Nat → Int32) × (Nat → Int32) × (Nat → Int32) × (Nat → Int32) × (Nat → Int32) × (Nat → Int32) × (Nat → Int32) × (Nat → Int32) × (Nat → Int32))} {x1 d_dishes d_speakers d_noises d_askers d_texted d_cursor d_start d_token d_number d_isWrong d_saidDishes d_saidSpeakers d_saidNoises d_saidAskers : Int32} {d_word : Int64} {d_isKept d_noise d_saidAsker d_saidMount d_saidNoise d_saidSpeaker d_speaker d_st o : Nat → Int32} : f_X6_valley_L209 K x1 d_dishes d_speakers d_noises d_askers d_texted d_cursor d_start d_token d_number d_word d_isWrong d_saidDishes d_saidSpeakers d_saidNoises d_saidAskers d_isKept d_noise d_saidAsker d_saidMount d_saidNoise d_saidSpeaker d_speaker d_st FU 0 o = K (cpC d_saidAsker o 10) := by
  have hend : ∀ n, f_X6_valley_L209 K x1 d_dishes d_speakers d_noises d_askers d_texted d_cursor d_start d_token d_number d_word d_isWrong d_saidDishes d_saidSpeakers d_saidNoises d_saidAskers d_isKept d_noise d_saidAsker d_saidMount d_saidNoise d_saidSpeaker d_speaker d_st (n + 1) (nI 10) (cpC d_saidAsker o 10) = K (cpC d_saidAsker o 10) := fun n => by
    rw [f_X6_valley_L209, if_pos (by decide)]
  have hst : ∀ n i, 0 ≤ i → i < 10 → f_X6_valley_L209 K x1 d_dishes d_speakers d_noises d_askers d_texted d_cursor d_start d_token d_number d_word d_isWrong d_saidDishes d_saidSpeakers d_saidNoises d_saidAskers d_isKept d_noise d_saidAsker d_saidMount d_saidNoise d_saidSpeaker d_speaker d_st (n + 1) (nI i) (cpC d_saidAsker o i) = f_X6_valley_L209 K x1 d_dishes d_speakers d_noises d_askers d_texted d_cursor d_start d_token d_number d_word d_isWrong d_saidDishes d_saidSpeakers d_saidNoises d_saidAskers d_isKept d_noise d_saidAsker d_saidMount d_saidNoise d_saidSpeaker d_speaker d_st n (nI (i + 1)) (cpC d_saidAsker o (i + 1)) := fun n i _ hi => by
    rw [f_X6_valley_L209, if_neg (show ¬ (10 : Int32) ≤ nI i from nI_ge (b := 10) hi (by decide)), if_neg (in_row hi (by decide)), if_neg (in_row hi (by decide)), nI_clamp (n := i) (by omega), cpC_step, nI_1]
  have hl := lp (fun n i => f_X6_valley_L209 K x1 d_dishes d_speakers d_noises d_askers d_texted d_cursor d_start d_token d_number d_word d_isWrong d_saidDishes d_saidSpeakers d_saidNoises d_saidAskers d_isKept d_noise d_saidAsker d_saidMount d_saidNoise d_saidSpeaker d_speaker d_st n (nI i) (cpC d_saidAsker o i)) 10 hend 0 hst (by decide) (by decide)
  rw [cpC_0] at hl
  exact hl
theorem v183 {K : (Nat → Int32) → Option (Int32 × Int32 × Int32 × Int32 × Int32 × Int32 × Int32 × Int32 × Int32 × Int32 × Int64 × Int32 × Int32 × Int32 × Int32 × Int32 × (Nat → Int32) × (Nat → Int32) × (Nat → Int32) × (Nat → Int32) × (Nat → Int32) × (Nat → Int32) × (Nat → Int32) × (Nat → Int32) × (Nat → Int32))} {x1 d_dishes d_speakers d_noises d_askers d_texted d_cursor d_start d_token d_number d_isWrong d_saidDishes d_saidSpeakers d_saidNoises d_saidAskers : Int32} {d_word : Int64} {d_asker d_isKept d_saidAsker d_saidMount d_saidNoise d_saidSpeaker d_speaker d_st o : Nat → Int32} : f_X6_valley_L183 K x1 d_dishes d_speakers d_noises d_askers d_texted d_cursor d_start d_token d_number d_word d_isWrong d_saidDishes d_saidSpeakers d_saidNoises d_saidAskers d_asker d_isKept d_saidAsker d_saidMount d_saidNoise d_saidSpeaker d_speaker d_st FU 0 o = K (cpC d_saidNoise o 9) := by
  have hend : ∀ n, f_X6_valley_L183 K x1 d_dishes d_speakers d_noises d_askers d_texted d_cursor d_start d_token d_number d_word d_isWrong d_saidDishes d_saidSpeakers d_saidNoises d_saidAskers d_asker d_isKept d_saidAsker d_saidMount d_saidNoise d_saidSpeaker d_speaker d_st (n + 1) (nI 9) (cpC d_saidNoise o 9) = K (cpC d_saidNoise o 9) := fun n => by
    rw [f_X6_valley_L183, if_pos (by decide)]
  have hst : ∀ n i, 0 ≤ i → i < 9 → f_X6_valley_L183 K x1 d_dishes d_speakers d_noises d_askers d_texted d_cursor d_start d_token d_number d_word d_isWrong d_saidDishes d_saidSpeakers d_saidNoises d_saidAskers d_asker d_isKept d_saidAsker d_saidMount d_saidNoise d_saidSpeaker d_speaker d_st (n + 1) (nI i) (cpC d_saidNoise o i) = f_X6_valley_L183 K x1 d_dishes d_speakers d_noises d_askers d_texted d_cursor d_start d_token d_number d_word d_isWrong d_saidDishes d_saidSpeakers d_saidNoises d_saidAskers d_asker d_isKept d_saidAsker d_saidMount d_saidNoise d_saidSpeaker d_speaker d_st n (nI (i + 1)) (cpC d_saidNoise o (i + 1)) := fun n i _ hi => by
    rw [f_X6_valley_L183, if_neg (show ¬ (9 : Int32) ≤ nI i from nI_ge (b := 9) hi (by decide)), if_neg (in_row hi (by decide)), if_neg (in_row hi (by decide)), nI_clamp (n := i) (by omega), cpC_step, nI_1]
  have hl := lp (fun n i => f_X6_valley_L183 K x1 d_dishes d_speakers d_noises d_askers d_texted d_cursor d_start d_token d_number d_word d_isWrong d_saidDishes d_saidSpeakers d_saidNoises d_saidAskers d_asker d_isKept d_saidAsker d_saidMount d_saidNoise d_saidSpeaker d_speaker d_st n (nI i) (cpC d_saidNoise o i)) 9 hend 0 hst (by decide) (by decide)
  rw [cpC_0] at hl
  exact hl
theorem v157 {K : (Nat → Int32) → Option (Int32 × Int32 × Int32 × Int32 × Int32 × Int32 × Int32 × Int32 × Int32 × Int32 × Int64 × Int32 × Int32 × Int32 × Int32 × Int32 × (Nat → Int32) × (Nat → Int32) × (Nat → Int32) × (Nat → Int32) × (Nat → Int32) × (Nat → Int32) × (Nat → Int32) × (Nat → Int32) × (Nat → Int32))} {x1 d_dishes d_speakers d_noises d_askers d_texted d_cursor d_start d_token d_number d_isWrong d_saidDishes d_saidSpeakers d_saidNoises d_saidAskers : Int32} {d_word : Int64} {d_asker d_isKept d_noise d_saidAsker d_saidMount d_saidNoise d_saidSpeaker d_st o : Nat → Int32} : f_X6_valley_L157 K x1 d_dishes d_speakers d_noises d_askers d_texted d_cursor d_start d_token d_number d_word d_isWrong d_saidDishes d_saidSpeakers d_saidNoises d_saidAskers d_asker d_isKept d_noise d_saidAsker d_saidMount d_saidNoise d_saidSpeaker d_st FU 0 o = K (cpC d_saidSpeaker o 20) := by
  have hend : ∀ n, f_X6_valley_L157 K x1 d_dishes d_speakers d_noises d_askers d_texted d_cursor d_start d_token d_number d_word d_isWrong d_saidDishes d_saidSpeakers d_saidNoises d_saidAskers d_asker d_isKept d_noise d_saidAsker d_saidMount d_saidNoise d_saidSpeaker d_st (n + 1) (nI 20) (cpC d_saidSpeaker o 20) = K (cpC d_saidSpeaker o 20) := fun n => by
    rw [f_X6_valley_L157, if_pos (by decide)]
  have hst : ∀ n i, 0 ≤ i → i < 20 → f_X6_valley_L157 K x1 d_dishes d_speakers d_noises d_askers d_texted d_cursor d_start d_token d_number d_word d_isWrong d_saidDishes d_saidSpeakers d_saidNoises d_saidAskers d_asker d_isKept d_noise d_saidAsker d_saidMount d_saidNoise d_saidSpeaker d_st (n + 1) (nI i) (cpC d_saidSpeaker o i) = f_X6_valley_L157 K x1 d_dishes d_speakers d_noises d_askers d_texted d_cursor d_start d_token d_number d_word d_isWrong d_saidDishes d_saidSpeakers d_saidNoises d_saidAskers d_asker d_isKept d_noise d_saidAsker d_saidMount d_saidNoise d_saidSpeaker d_st n (nI (i + 1)) (cpC d_saidSpeaker o (i + 1)) := fun n i _ hi => by
    rw [f_X6_valley_L157, if_neg (show ¬ (20 : Int32) ≤ nI i from nI_ge (b := 20) hi (by decide)), if_neg (in_row hi (by decide)), if_neg (in_row hi (by decide)), nI_clamp (n := i) (by omega), cpC_step, nI_1]
  have hl := lp (fun n i => f_X6_valley_L157 K x1 d_dishes d_speakers d_noises d_askers d_texted d_cursor d_start d_token d_number d_word d_isWrong d_saidDishes d_saidSpeakers d_saidNoises d_saidAskers d_asker d_isKept d_noise d_saidAsker d_saidMount d_saidNoise d_saidSpeaker d_st n (nI i) (cpC d_saidSpeaker o i)) 20 hend 0 hst (by decide) (by decide)
  rw [cpC_0] at hl
  exact hl
theorem v130 {K : (Nat → Int32) → Option (Int32 × Int32 × Int32 × Int32 × Int32 × Int32 × Int32 × Int32 × Int32 × Int32 × Int64 × Int32 × Int32 × Int32 × Int32 × Int32 × (Nat → Int32) × (Nat → Int32) × (Nat → Int32) × (Nat → Int32) × (Nat → Int32) × (Nat → Int32) × (Nat → Int32) × (Nat → Int32) × (Nat → Int32))} {x1 d_dishes d_speakers d_noises d_askers d_texted d_cursor d_start d_token d_number d_isWrong d_saidDishes d_saidSpeakers d_saidNoises d_saidAskers : Int32} {d_word : Int64} {d_asker d_isKept d_noise d_saidAsker d_saidMount d_saidNoise d_saidSpeaker d_speaker o : Nat → Int32} : f_X6_valley_L130 K x1 d_dishes d_speakers d_noises d_askers d_texted d_cursor d_start d_token d_number d_word d_isWrong d_saidDishes d_saidSpeakers d_saidNoises d_saidAskers d_asker d_isKept d_noise d_saidAsker d_saidMount d_saidNoise d_saidSpeaker d_speaker FU 0 o = K (shI o d_saidMount 3 5) := by
  have hend : ∀ n, f_X6_valley_L130 K x1 d_dishes d_speakers d_noises d_askers d_texted d_cursor d_start d_token d_number d_word d_isWrong d_saidDishes d_saidSpeakers d_saidNoises d_saidAskers d_asker d_isKept d_noise d_saidAsker d_saidMount d_saidNoise d_saidSpeaker d_speaker (n + 1) (nI 5) (shI o d_saidMount 3 5) = K (shI o d_saidMount 3 5) := fun n => by
    rw [f_X6_valley_L130, if_pos (by decide)]
  have hst : ∀ n i, 0 ≤ i → i < 5 → f_X6_valley_L130 K x1 d_dishes d_speakers d_noises d_askers d_texted d_cursor d_start d_token d_number d_word d_isWrong d_saidDishes d_saidSpeakers d_saidNoises d_saidAskers d_asker d_isKept d_noise d_saidAsker d_saidMount d_saidNoise d_saidSpeaker d_speaker (n + 1) (nI i) (shI o d_saidMount 3 i) = f_X6_valley_L130 K x1 d_dishes d_speakers d_noises d_askers d_texted d_cursor d_start d_token d_number d_word d_isWrong d_saidDishes d_saidSpeakers d_saidNoises d_saidAskers d_asker d_isKept d_noise d_saidAsker d_saidMount d_saidNoise d_saidSpeaker d_speaker n (nI (i + 1)) (shI o d_saidMount 3 (i + 1)) := fun n i _ hi => by
    rw [f_X6_valley_L130, if_neg (show ¬ (5 : Int32) ≤ nI i from nI_ge (b := 5) hi (by decide)), show (3 : Int32) + nI i = nI (3 + i) from nI_add 3 i, if_neg (in_row hi (by decide)), if_neg (in_row (a := 3 + i) (by omega) (by decide)), nI_clamp (n := i) (by omega), nI_clamp (n := 3 + i) (by omega), shI_step, nI_1]
  have hl := lp (fun n i => f_X6_valley_L130 K x1 d_dishes d_speakers d_noises d_askers d_texted d_cursor d_start d_token d_number d_word d_isWrong d_saidDishes d_saidSpeakers d_saidNoises d_saidAskers d_asker d_isKept d_noise d_saidAsker d_saidMount d_saidNoise d_saidSpeaker d_speaker n (nI i) (shI o d_saidMount 3 i)) 5 hend 0 hst (by decide) (by decide)
  rw [shI_0] at hl
  exact hl
theorem v77 {K : (Nat → Int32) → Option (Int32 × Int32 × Int32 × Int32 × Int32 × Int32 × Int32 × Int32 × Int32 × Int32 × Int64 × Int32 × Int32 × Int32 × Int32 × Int32 × (Nat → Int32) × (Nat → Int32) × (Nat → Int32) × (Nat → Int32) × (Nat → Int32) × (Nat → Int32) × (Nat → Int32) × (Nat → Int32) × (Nat → Int32))} {x1 d_dishes d_speakers d_noises d_askers d_texted d_cursor d_start d_token d_number d_isWrong d_saidDishes d_saidSpeakers d_saidNoises d_saidAskers : Int32} {d_word : Int64} {d_asker d_isKept d_noise d_saidAsker d_saidMount d_saidNoise d_saidSpeaker d_speaker o : Nat → Int32} : f_X6_valley_L77 K x1 d_dishes d_speakers d_noises d_askers d_texted d_cursor d_start d_token d_number d_word d_isWrong d_saidDishes d_saidSpeakers d_saidNoises d_saidAskers d_asker d_isKept d_noise d_saidAsker d_saidMount d_saidNoise d_saidSpeaker d_speaker FU 0 o = K (cz o 104) := by
  have hend : ∀ n, f_X6_valley_L77 K x1 d_dishes d_speakers d_noises d_askers d_texted d_cursor d_start d_token d_number d_word d_isWrong d_saidDishes d_saidSpeakers d_saidNoises d_saidAskers d_asker d_isKept d_noise d_saidAsker d_saidMount d_saidNoise d_saidSpeaker d_speaker (n + 1) (nI 104) (cz o 104) = K (cz o 104) := fun n => by
    rw [f_X6_valley_L77, if_pos (by decide)]
  have hst : ∀ n i, 0 ≤ i → i < 104 → f_X6_valley_L77 K x1 d_dishes d_speakers d_noises d_askers d_texted d_cursor d_start d_token d_number d_word d_isWrong d_saidDishes d_saidSpeakers d_saidNoises d_saidAskers d_asker d_isKept d_noise d_saidAsker d_saidMount d_saidNoise d_saidSpeaker d_speaker (n + 1) (nI i) (cz o i) = f_X6_valley_L77 K x1 d_dishes d_speakers d_noises d_askers d_texted d_cursor d_start d_token d_number d_word d_isWrong d_saidDishes d_saidSpeakers d_saidNoises d_saidAskers d_asker d_isKept d_noise d_saidAsker d_saidMount d_saidNoise d_saidSpeaker d_speaker n (nI (i + 1)) (cz o (i + 1)) := fun n i _ hi => by
    rw [f_X6_valley_L77, if_neg (show ¬ (104 : Int32) ≤ nI i from nI_ge (b := 104) hi (by decide)), if_neg (in_row hi (by decide)), nI_clamp (n := i) (by omega), cz_s, nI_1]
  have hl := lp (fun n i => f_X6_valley_L77 K x1 d_dishes d_speakers d_noises d_askers d_texted d_cursor d_start d_token d_number d_word d_isWrong d_saidDishes d_saidSpeakers d_saidNoises d_saidAskers d_asker d_isKept d_noise d_saidAsker d_saidMount d_saidNoise d_saidSpeaker d_speaker n (nI i) (cz o i)) 104 hend 0 hst (by decide) (by decide)
  rw [cz_0] at hl
  exact hl
