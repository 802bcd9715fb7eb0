/-! valley -/
theorem neg10 : ∀ s, s < 251 → (-10 : Int32) - nI s < 0 := by decide +kernel
theorem RAs_k {A : Nat} {n6 : Int32} {ac c' ra r' : Nat → Int32} (h : RAs (nI A) ac n6 ra A) (e1 : ∀ k, k < 48 → c' k = ac k) (e2 : ∀ k, k < 10 → r' k = ra k) : RAs (nI A) c' (nI A) r' A := by
  have h5 := h.1
  refine ⟨h5, rfl, rfl, fun i hi => ?_⟩
  rw [e1 _ (by omega), e1 _ (by omega), e2 _ (by omega), e2 _ (by omega)]
  exact h.2.2.2 i hi
theorem RSp_k {S : Nat} {n6 : Int32} {sc c' rs r' : Nat → Int32} (h : RSp (nI S) sc n6 rs S) (e1 : ∀ k, k < 48 → c' k = sc k) (e2 : ∀ k, k < 20 → r' k = rs k) : RSp (nI S) c' (nI S) r' S := by
  have h5 := h.1
  refine ⟨h5, rfl, rfl, fun i hi => ?_⟩
  rw [e1 _ (by omega), e1 _ (by omega), e1 _ (by omega), e1 _ (by omega), e2 _ (by omega), e2 _ (by omega), e2 _ (by omega), e2 _ (by omega)]
  exact h.2.2.2 i hi
theorem RNo_k {N : Nat} {n6 : Int32} {nc c' rn r' : Nat → Int32} (h : RNo (nI N) nc n6 rn N) (e1 : ∀ k, k < 48 → c' k = nc k) (e2 : ∀ k, k < 9 → r' k = rn k) : RNo (nI N) c' (nI N) r' N := by
  have h5 := h.1
  refine ⟨h5, rfl, rfl, fun i hi => ?_⟩
  rw [e1 _ (by omega), e1 _ (by omega), e1 _ (by omega), e2 _ (by omega), e2 _ (by omega), e2 _ (by omega)]
  exact h.2.2.2 i hi
theorem e_copyV {A D N S : Nat} {ac dc nc sc ac' dc' nc' sc' : Nat → Int32} {am dm nm sm : Int32} (hA : A ≤ 5) (hD : D ≤ 5) (hN : N ≤ 3) (hS : S ≤ 5) :
    f_X4_copyFrom (nI A) ac (nI D) dc (nI N) nc (nI S) sc 5 am ac' 5 dm dc' 3 nm nc' 5 sm sc' = some (nI A, cpC ac ac' 48, nI D, cpC dc dc' 48, nI N, cpC nc nc' 48, nI S, cpC sc sc' 48) := by
  unfold f_X4_copyFrom
  have a1 : f_X2_copyFrom (nI D) dc 5 dm dc' = some (nI D, cpC dc dc' 48) := e_copy (mo := 5) hD (by decide)
  have a2 : f_X2_copyFrom (nI S) sc 5 sm sc' = some (nI S, cpC sc sc' 48) := e_copy (mo := 5) hS (by decide)
  have a3 : f_X2_copyFrom (nI N) nc 3 nm nc' = some (nI N, cpC nc nc' 48) := e_copy (mo := 3) hN (by decide)
  have a4 : f_X2_copyFrom (nI A) ac 5 am ac' = some (nI A, cpC ac ac' 48) := e_copy (mo := 5) hA (by decide)
  rw [a1, Option.bind_some, a2, Option.bind_some, a3, Option.bind_some, a4, Option.bind_some]
theorem e_begin {D : Nat} {dc mc : Nat → Int32} {l g m u : Int32} (hD : D ≤ 5) : f_X0_begin (nI D) dc l g 5 m mc u = some (0, 0, nI D, cpC dc mc 48, 0) := by
  unfold f_X0_begin
  have a1 : f_X2_copyFrom (nI D) dc 5 m mc = some (nI D, cpC dc mc 48) := e_copy (mo := 5) hD (by decide)
  rw [a1, Option.bind_some]
  rfl
theorem RW0 {ac dc nc sc ra rm rn rs : Nat → Int32} : RW 0 0 0 0 ac dc nc sc ra rm rn rs :=
  ⟨⟨by decide, rfl, rfl, fun i hi => absurd hi (Nat.not_lt_zero i)⟩, ⟨by decide, rfl, rfl, fun i hi => absurd hi (Nat.not_lt_zero i)⟩, ⟨by decide, rfl, rfl, fun i hi => absurd hi (Nat.not_lt_zero i)⟩, ⟨by decide, rfl, rfl, fun i hi => absurd hi (Nat.not_lt_zero i)⟩⟩
/-- all is as told, nothing has been -/
theorem RNow_new {D A : Nat} {dc mc' rm st : Nat → Int32} (hD : DR (nI D) dc (nI D) rm D) (e : ∀ k, k < 48 → mc' k = dc k) {lc gc uc : Nat → Int32} : RNow (nI D) mc' 0 lc 0 gc 0 uc (shI (cz st 104) rm 3 5) 0 D A := by
  have h5 := hD.1
  have z : ∀ j, j < 3 → shI (cz st 104) rm 3 5 j = nI 0 := fun j hj => by
    simp only [shI, cz]
    rw [if_neg (by omega), if_pos (by omega)]
  refine ⟨⟨rfl, fun d hd => ?_⟩, 0, 0, 0, ⟨rfl, by decide, z 0 (by decide), fun i hi => absurd hi (Nat.not_lt_zero i)⟩, ⟨rfl, by decide, z 1 (by decide), fun i hi => absurd hi (Nat.not_lt_zero i)⟩, ⟨rfl, by decide, z 2 (by decide), Nat.le_refl _, fun i hi => absurd hi (Nat.not_lt_zero i)⟩⟩
  have es : shI (cz st 104) rm 3 5 (0 + 3 + d) = rm d := by
    simp only [shI]
    rw [if_pos (by omega), show 0 + 3 + d - 3 = d by omega]
  rw [es, e _ (by omega)]
  exact hD.2.2.2 d hd
theorem op_valley (sc : Nat → Int32) (ar : Nat → Nat → Int32) (lg : Nat → Int64) (hR : Rel sc ar lg) :
    ∃ (q : Int32 × Int32 × Int32 × (Nat → Int32) × Int32 × (Nat → Int32) × Int32 × (Nat → Int32) × Int32 × (Nat → Int32) × Int32 × Int32 × Int32 × (Nat → Int32) × Int32 × (Nat → Int32) × Int32 × Int32 × Int32 × Int32 × Int32 × Int32 × (Nat → Int32) × Int32 × (Nat → Int32) × Int32 × (Nat → Int32) × Int32 × (Nat → Int32)) (q' : Int32 × Int32 × Int32 × Int32 × Int32 × Int32 × Int32 × Int32 × Int32 × Int32 × Int64 × Int32 × Int32 × Int32 × Int32 × Int32 × (Nat → Int32) × (Nat → Int32) × (Nat → Int32) × (Nat → Int32) × (Nat → Int32) × (Nat → Int32) × (Nat → Int32) × (Nat → Int32) × (Nat → Int32)), f_X5_valley (sc 0) (sc 1) (sc 2) (ar 0) (sc 3) (sc 4) (ar 1) (sc 5) (sc 6) (ar 2) (sc 7) (sc 8) (ar 3) (sc 26) (sc 28) (sc 29) (sc 30) (ar 14) (sc 32) (ar 17) (sc 33) (sc 34) (sc 35) (sc 36) (sc 37) (ar 19) (sc 38) (sc 39) (ar 20) (sc 40) (sc 41) (ar 21) (sc 42) (sc 43) (ar 22) (sc 44) (sc 45) (ar 23) = some q ∧ f_X6_valley (sc 46) (sc 47) (sc 48) (sc 49) (sc 50) (sc 51) (sc 52) (sc 53) (sc 54) (lg 2) (sc 55) (sc 56) (sc 57) (sc 58) (sc 59) (ar 24) (ar 26) (ar 27) (ar 29) (ar 30) (ar 31) (ar 32) (ar 33) (ar 34) (ar 35) = some q' ∧ q.1 = q'.1 ∧ Rel (uv (uv (uv (uv (uv (uv (uv (uv (uv (uv (uv (uv (uv (uv (uv (uv (uv (uv (uv (uv (uv (uv (uv (uv (uv (uv (uv (uv (uv (uv (uv (uv sc 0 q.2.1) 2 q.2.2.1) 4 q.2.2.2.2.1) 6 q.2.2.2.2.2.2.1) 8 q.2.2.2.2.2.2.2.2.1) 26 q.2.2.2.2.2.2.2.2.2.2.1) 28 q.2.2.2.2.2.2.2.2.2.2.2.1) 30 q.2.2.2.2.2.2.2.2.2.2.2.2.1) 32 q.2.2.2.2.2.2.2.2.2.2.2.2.2.2.1) 33 q.2.2.2.2.2.2.2.2.2.2.2.2.2.2.2.2.1) 34 q.2.2.2.2.2.2.2.2.2.2.2.2.2.2.2.2.2.1) 35 q.2.2.2.2.2.2.2.2.2.2.2.2.2.2.2.2.2.2.1) 36 q.2.2.2.2.2.2.2.2.2.2.2.2.2.2.2.2.2.2.2.1) 37 q.2.2.2.2.2.2.2.2.2.2.2.2.2.2.2.2.2.2.2.2.1) 39 q.2.2.2.2.2.2.2.2.2.2.2.2.2.2.2.2.2.2.2.2.2.1) 41 q.2.2.2.2.2.2.2.2.2.2.2.2.2.2.2.2.2.2.2.2.2.2.2.1) 43 q.2.2.2.2.2.2.2.2.2.2.2.2.2.2.2.2.2.2.2.2.2.2.2.2.2.1) 45 q.2.2.2.2.2.2.2.2.2.2.2.2.2.2.2.2.2.2.2.2.2.2.2.2.2.2.2.1) 46 q'.2.1) 47 q'.2.2.1) 48 q'.2.2.2.1) 49 q'.2.2.2.2.1) 50 q'.2.2.2.2.2.1) 51 q'.2.2.2.2.2.2.1) 52 q'.2.2.2.2.2.2.2.1) 53 q'.2.2.2.2.2.2.2.2.1) 54 q'.2.2.2.2.2.2.2.2.2.1) 55 q'.2.2.2.2.2.2.2.2.2.2.2.1) 56 q'.2.2.2.2.2.2.2.2.2.2.2.2.1) 57 q'.2.2.2.2.2.2.2.2.2.2.2.2.2.1) 58 q'.2.2.2.2.2.2.2.2.2.2.2.2.2.2.1) 59 q'.2.2.2.2.2.2.2.2.2.2.2.2.2.2.2.1) (uv (uv (uv (uv (uv (uv (uv (uv (uv (uv (uv (uv (uv (uv (uv (uv (uv (uv (uv ar 0 q.2.2.2.1) 1 q.2.2.2.2.2.1) 2 q.2.2.2.2.2.2.2.1) 3 q.2.2.2.2.2.2.2.2.2.1) 14 q.2.2.2.2.2.2.2.2.2.2.2.2.2.1) 17 q.2.2.2.2.2.2.2.2.2.2.2.2.2.2.2.1) 20 q.2.2.2.2.2.2.2.2.2.2.2.2.2.2.2.2.2.2.2.2.2.2.1) 21 q.2.2.2.2.2.2.2.2.2.2.2.2.2.2.2.2.2.2.2.2.2.2.2.2.1) 22 q.2.2.2.2.2.2.2.2.2.2.2.2.2.2.2.2.2.2.2.2.2.2.2.2.2.2.1) 23 q.2.2.2.2.2.2.2.2.2.2.2.2.2.2.2.2.2.2.2.2.2.2.2.2.2.2.2.2) 24 q'.2.2.2.2.2.2.2.2.2.2.2.2.2.2.2.2.1) 26 q'.2.2.2.2.2.2.2.2.2.2.2.2.2.2.2.2.2.1) 27 q'.2.2.2.2.2.2.2.2.2.2.2.2.2.2.2.2.2.2.1) 29 q'.2.2.2.2.2.2.2.2.2.2.2.2.2.2.2.2.2.2.2.1) 30 q'.2.2.2.2.2.2.2.2.2.2.2.2.2.2.2.2.2.2.2.2.1) 31 q'.2.2.2.2.2.2.2.2.2.2.2.2.2.2.2.2.2.2.2.2.2.1) 32 q'.2.2.2.2.2.2.2.2.2.2.2.2.2.2.2.2.2.2.2.2.2.2.1) 33 q'.2.2.2.2.2.2.2.2.2.2.2.2.2.2.2.2.2.2.2.2.2.2.2.1) 34 q'.2.2.2.2.2.2.2.2.2.2.2.2.2.2.2.2.2.2.2.2.2.2.2.2) (uv lg 2 q'.2.2.2.2.2.2.2.2.2.2.1) := by
  obtain ⟨hM, hT, ⟨nT, ht1, ht2, ht3, ht4⟩, hrest⟩ := id hR
  have hTX : TX nT (ar 19) (ar 35) := ⟨ht1, fun i hi => by
    obtain ⟨a, b⟩ := ht4 i hi
    obtain ⟨e, l⟩ := tN_in b (by decide)
    exact ⟨a.trans e, e, l⟩⟩
  have hTx0 : RTx (nI nT) (ar 19) (nI nT) (ar 35) := ⟨nT, ht1, rfl, rfl, ht4⟩
  have o1 : sc 1 = 5 := hM.1
  have o3 : sc 3 = 5 := hM.2.1
  have o5 : sc 5 = 3 := hM.2.2.1
  have o7 : sc 7 = 5 := hM.2.2.2.1
  have o29 : sc 29 = 5 := hM.2.2.2.2.2.2.2.2.2.2.2.2.2.2.1
  have o38 : sc 38 = 5 := hM.2.2.2.2.2.2.2.2.2.2.2.2.2.2.2.2.1
  have o40 : sc 40 = 5 := hM.2.2.2.2.2.2.2.2.2.2.2.2.2.2.2.2.2.1
  have o42 : sc 42 = 3 := hM.2.2.2.2.2.2.2.2.2.2.2.2.2.2.2.2.2.2.1
  have o44 : sc 44 = 5 := hM.2.2.2.2.2.2.2.2.2.2.2.2.2.2.2.2.2.2.2
  obtain ⟨e, s, tk, v, t, n, w, u, a1, b1, c1, d1, g1, p1, q1, R1, U1⟩ := tok hTX (Nat.zero_le nT) (sc 35) (sc 36) (sc 37) (sc 52) (sc 53) (sc 54) (lg 2)
  have L : ENDS (K := f_X6_valley_X60 (sc 46) (sc 47) (sc 48) (sc 49) (nI nT) (ar 24) (ar 26) (ar 27) (ar 33) (ar 34)) (f_X1_readItems (nI nT) (sc 34) (sc 35) (sc 36) (sc 37) (ar 19) 5 (sc 2) (ar 0) 5 (sc 4) (ar 1) 3 (sc 6) (ar 2) 5 (sc 8) (ar 3) (ar 17)) (f_X6_valley (sc 46) (sc 47) (sc 48) (sc 49) (nI nT) (sc 51) (sc 52) (sc 53) (sc 54) (lg 2) (sc 55) (sc 56) (sc 57) (sc 58) (sc 59) (ar 24) (ar 26) (ar 27) (ar 29) (ar 30) (ar 31) (ar 32) (ar 33) (ar 34) (ar 35)) nT := by
    have p1' : f_X3_readToken (nI nT) (f_X3_rewind (sc 34)) (sc 35) (sc 36) (sc 37) (ar 19) = some (nI e, nI s, nI tk, u) := p1
    have q1' : f_X6_next (nI nT) 0 (sc 52) (sc 53) (sc 54) (lg 2) (ar 35) = some (nI e, nI s, t, n, w) := q1
    unfold f_X1_readItems f_X6_valley
    rw [p1', q1', Option.bind_some, Option.bind_some]
    exact loops hTX nT 0 s e tk v 0 0 0 0 u t n w (ar 0) (ar 1) (ar 2) (ar 3) (ar 17) (ar 29) (ar 30) (ar 31) (ar 32) (Nat.sub_le _ _) (Nat.zero_le _) b1 c1 d1 g1 R1 RW0 FU FU (by unfold FU; omega) (by unfold FU; omega)
  unfold f_X5_valley
  rw [ht2, ht3, o1, o3, o5, o7, o29, o38, o40, o42, o44]
  rcases L with ⟨s9, r, x, b, d, e9, u9, k1, k2, k3, k4, r1, r2, r3, r4, hs, hX, hr, hY⟩ | ⟨j, A, D, N, S, x1, x2, x3, x4, ac, dc, nc, sc', rd, ra, rm, rn, rs, b, s9, d, e9, u9, hj, hX, hY, hA, hD, hN, hS⟩
  · have hneg : r.1 < 0 := by rw [hr]; exact neg10 s9 (by omega)
    rw [hX, Option.bind_some, if_pos hneg, hY, f_X6_valley_X60, if_neg n10]
    exact ⟨_, _, rfl, rfl, hr, hM, hT, hTx0, hrest⟩
  · rw [hX, Option.bind_some]
    dsimp only
    rw [if_neg (nI_pos (by omega)), e_copyV hA.1 hD.1 hN.1 hS.1, Option.bind_some]
    dsimp only
    rw [e_begin hD.1, Option.bind_some, hY, f_X6_valley_X60, if_pos e00, v77, f_X6_valley_X96, v130, f_X6_valley_X155, v157, f_X6_valley_X181, v183, f_X6_valley_X207, v209, f_X6_valley_X233]
    have hTx1 : RTx 0 (ar 19) 0 (ar 35) := ⟨0, by decide, rfl, rfl, fun i hi => absurd hi (Nat.not_lt_zero i)⟩
    have hNow : RNow (nI D) (cpC (cpC dc (ar 21) 48) (ar 14) 48) 0 (ar 12) 0 (ar 13) 0 (ar 15) (shI (cz (ar 34) 104) rm 3 5) 0 D A := RNow_new hD (fun k hk => by rw [cpC_in hk, cpC_in hk])
    have hAs : RAs (nI A) (cpC ac (ar 20) 48) (nI A) (cpC ra (ar 24) 10) A := RAs_k hA (fun k hk => cpC_in hk) (fun k hk => cpC_in hk)
    have hSp : RSp (nI S) (cpC sc' (ar 23) 48) (nI S) (cpC rs (ar 33) 20) S := RSp_k hS (fun k hk => cpC_in hk) (fun k hk => cpC_in hk)
    have hNo : RNo (nI N) (cpC nc (ar 22) 48) (nI N) (cpC rn (ar 27) 9) N := RNo_k hN (fun k hk => cpC_in hk) (fun k hk => cpC_in hk)
    have i0 : upd (upd (ar 26) (Int32.toNatClampNeg 0) (vp_nar .boolean 0)) (Int32.toNatClampNeg 1) (vp_nar .boolean 0) 0 = 0 := rfl
    have i1 : upd (upd (ar 26) (Int32.toNatClampNeg 0) (vp_nar .boolean 0)) (Int32.toNatClampNeg 1) (vp_nar .boolean 0) 1 = 0 := rfl
    refine ⟨_, _, rfl, rfl, rfl, hM, hT, hTx1, D, A, S, N, hD.1, rfl, hAs, hSp, hNo, hNow, Or.inl ⟨i0, i1, rfl⟩, fun q => ?_, fun q => ?_⟩
    · exact absurd (i0.symm.trans q) (by decide)
    · exact absurd (i1.symm.trans q) (by decide)
