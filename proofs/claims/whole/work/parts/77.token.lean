/-! a token -/
def wd (k : Nat) : Nat := if k = 0 then 1684632424 else if k = 1 then 32493203050161522 else if k = 2 then 474315584357 else 418548245874
def TokR (tk v : Nat) (t n : Int32) (w : Int64) : Prop :=
  (tk = 6 ∧ t = 0) ∨ (tk < 4 ∧ t = 1 ∧ w = lN (wd tk)) ∨ (tk = 4 ∧ t = 2 ∧ n = nI v ∧ v < 100) ∨ (tk = 5 ∧ t = 3) ∨ (tk = 7 ∧ (t = 4 ∨ (t = 1 ∧ ∃ a, w = lN a ∧ a < 2 ^ 63 ∧ ∀ k, k < 4 → a ≠ wd k)))
theorem we_iff {B : Nat → Nat} {s L k : Nat} (hk : k < 4) (hb : ∀ j, j < L → 97 ≤ B (s + j) ∧ B (s + j) ≤ 122) : wv B s L = wd k ↔ WE B s k L := by
  rcases (show k = 0 ∨ k = 1 ∨ k = 2 ∨ k = 3 by omega) with rfl | rfl | rfl | rfl
  · exact (we0 hb).trans wE0.symm
  · exact (we1 hb).trans wE1.symm
  · exact (we2 hb).trans wE2.symm
  · exact (we3 hb).trans wE3.symm
theorem skip5 {nT c s : Nat} {t5 t6 : Nat → Int32} {K : Int32 → Option (Int32 × Int32 × Int32 × Int32)} {x y z : Int32} (h : TX nT t5 t6) (hcs : c ≤ s) (hs : s ≤ nT) (hb : ∀ k, c ≤ k → k < s → decide (tB t6 k = 32) = true) (hx : s < nT → decide (tB t6 s = 32) = false) : f_X3_readToken_L0 K (nI nT) x y z t5 FU (nI c) = K (nI s) := by
  have h0 := h.1
  have hend : ∀ n, f_X3_readToken_L0 K (nI nT) x y z t5 (n + 1) (nI s) = K (nI s) := fun n => by
    rw [f_X3_readToken_L0]
    by_cases q : nT ≤ s
    · rw [if_pos (nI_le q (by omega))]
    · have hb2 := (h.2 s (by omega)).2.2
      have hne : ¬ tB t6 s = 32 := of_decide_eq_false (hx (by omega))
      rw [if_neg (nI_ge (by omega) (by omega)), tx_at h (by omega), if_neg (show ¬ nI (tB t6 s) = 32 from fun w => hne ((nI_eq (b := 32) (by omega) (by decide)).mp w))]
  have hst : ∀ n i, c ≤ i → i < s → f_X3_readToken_L0 K (nI nT) x y z t5 (n + 1) (nI i) = f_X3_readToken_L0 K (nI nT) x y z t5 n (nI (i + 1)) := fun n i hi1 hi2 => by
    have he : tB t6 i = 32 := of_decide_eq_true (hb i hi1 hi2)
    rw [f_X3_readToken_L0, if_neg (nI_ge (by omega) (by omega)), tx_at h (by omega), he, if_pos (by decide), nI_1]
  exact lp (fun n i => f_X3_readToken_L0 K (nI nT) x y z t5 n (nI i)) s hend c hst hcs (by omega)
theorem skip6 {nT c s : Nat} {t5 t6 : Nat → Int32} {K : Int32 → Option (Int32 × Int32 × Int32 × Int32 × Int64)} {x y z : Int32} {w : Int64} (h : TX nT t5 t6) (hcs : c ≤ s) (hs : s ≤ nT) (hb : ∀ k, c ≤ k → k < s → decide (tB t6 k = 32) = true) (hx : s < nT → decide (tB t6 s = 32) = false) : f_X6_next_L0 K (nI nT) x y z w t6 FU (nI c) = K (nI s) := by
  have h0 := h.1
  have hend : ∀ n, f_X6_next_L0 K (nI nT) x y z w t6 (n + 1) (nI s) = K (nI s) := fun n => by
    rw [f_X6_next_L0]
    by_cases q : nT ≤ s
    · rw [byte_out h q (by omega), Option.bind_some, if_neg (by decide)]
    · have hb2 := (h.2 s (by omega)).2.2
      have hne : ¬ tB t6 s = 32 := of_decide_eq_false (hx (by omega))
      rw [byte_in h (by omega), Option.bind_some, if_neg (show ¬ nI (tB t6 s) = 32 from fun w => hne ((nI_eq (b := 32) (by omega) (by decide)).mp w))]
  have hst : ∀ n i, c ≤ i → i < s → f_X6_next_L0 K (nI nT) x y z w t6 (n + 1) (nI i) = f_X6_next_L0 K (nI nT) x y z w t6 n (nI (i + 1)) := fun n i hi1 hi2 => by
    have he : tB t6 i = 32 := of_decide_eq_true (hb i hi1 hi2)
    rw [f_X6_next_L0, byte_in h (by omega), Option.bind_some, he, if_pos (by decide), nI_1]
  exact lp (fun n i => f_X6_next_L0 K (nI nT) x y z w t6 n (nI i)) s hend c hst hcs (by omega)
theorem tok {nT c : Nat} {t5 t6 : Nat → Int32} (h : TX nT t5 t6) (hc : c ≤ nT) (x y z : Int32) (x' y' z' : Int32) (w' : Int64) :
    ∃ (e s tk v : Nat) (t n : Int32) (w : Int64) (v5 : Int32), c ≤ s ∧ s ≤ e ∧ e ≤ nT ∧ (tk ≠ 6 → s < e) ∧ tk < 8 ∧
      f_X3_readToken (nI nT) (nI c) x y z t5 = some (nI e, nI s, nI tk, v5) ∧ f_X6_next (nI nT) (nI c) x' y' z' w' t6 = some (nI e, nI s, t, n, w) ∧ TokR tk v t n w ∧ (tk = 4 → v5 = nI v) := by
  have h0 := h.1
  obtain ⟨s, hs1, hs2, hs3, hs4⟩ := scan_ex (fun k => decide (tB t6 k = 32)) nT (nT - c) c rfl hc
  unfold f_X3_readToken f_X6_next
  rw [skip5 h hs1 hs2 hs3 hs4, skip6 h hs1 hs2 hs3 hs4, f_X3_readToken_X40, f_X6_next_X26]
  by_cases q : s < nT
  · have hb := (h.2 s q).2.2
    rw [if_pos (nI_lt q (by omega)), byte_in h q, Option.bind_some, if_pos (nI_pos' (by omega)), dig5 h q, let5 h q, dig6 hb, let6 hb, if_bI, if_bI, if_bI, if_bI]
    by_cases qd : isD (tB t6 s) = true
    · have hdr := rg_m qd
      have ql : ¬ isL (tB t6 s) = true := fun w => by have := rg_m w; omega
      rw [if_pos qd, if_neg ql, if_pos qd]
      obtain ⟨e, he1, he2, he3, he4⟩ := scan_ex (fun k => isD (tB t6 k)) nT (nT - s) s rfl hs2
      have hlt : s < e := by
        rcases Nat.lt_or_ge s e with w | w
        · exact w
        · have : s = e := by omega
          rw [← this] at he4
          rw [he4 q] at qd
          exact absurd qd (by decide)
      have hall : ∀ k, k < e - s → 48 ≤ tB t6 (s + k) ∧ tB t6 (s + k) ≤ 57 := fun k hk => rg_m (he3 (s + k) (by omega) (by omega))
      have hvb := vC_b (B := tB t6) (s := s) (e - s)
      unfold f_X3_readNumber
      rw [num5 h he1 he2 he3 he4, num6 h he1 he2 he3 he4, f_X3_readNumber_X71, f_X6_next_X236, tx_at h q, pk_sub he1]
      have hok := num_ok (B := tB t6) (s := s) (L := e - s) (by omega) hall
      by_cases ok : e - s < 3 ∧ (tB t6 s = 48 → e - s = 1)
      · have ok5 := hok.mpr ok
        have hv := num_eq (B := tB t6) (s := s) (L := e - s) (by omega) ok.1 hall
        have r5 : ∀ x : Int32, f_X3_readNumber_J105 (nI e) x (nI (vC (tB t6) s (e - s))) 0 = some (nI e, 4, nI (vC (tB t6) s (e - s))) := fun x => by
          rw [f_X3_readNumber_J105, if_neg (show ¬ 99 < nI (vC (tB t6) s (e - s)) from nI_nlt (a := 99) (by omega) (by decide)), if_pos e00, f_X3_readNumber_J126]
        refine ⟨e, s, 4, vC (tB t6) s (e - s), 2, nI (nR (tB t6) s (e - s)), w', nI (vC (tB t6) s (e - s)), hs1, he1, he2, fun _ => hlt, by decide, ?_, ?_, Or.inr (Or.inr (Or.inl ⟨rfl, rfl, by rw [hv], by omega⟩)), fun _ => rfl⟩
        · by_cases z48 : tB t6 s = 48
          · rw [z48, if_pos (show nI 48 = 48 from rfl), if_pos (show nI (e - s) ≤ 1 from nI_le (b := 1) (by have := ok.2 z48; omega) (by decide)), r5]
            rfl
          · rw [if_neg (show ¬ nI (tB t6 s) = 48 from fun w => z48 ((nI_eq (b := 48) (by omega) (by decide)).mp w)), r5]
            rfl
        · rw [if_neg (show ¬ (3 : Int32) ≤ nI (e - s) from nI_ge (b := 3) ok.1 (by decide))]
          by_cases z48 : tB t6 s = 48
          · rw [z48, if_pos (show nI 48 = 48 from rfl), ok.2 z48, if_pos (by decide), f_X6_next_J274]
          · rw [if_neg (show ¬ nI (tB t6 s) = 48 from fun w => z48 ((nI_eq (b := 48) (by omega) (by decide)).mp w)), f_X6_next_J274]
      · have ok5 : ¬ (¬ 99 < vC (tB t6) s (e - s) ∧ (tB t6 s = 48 → e - s ≤ 1)) := fun w => ok (hok.mp w)
        refine ⟨e, s, 7, 0, 4, nI (nR (tB t6) s (e - s)), w', nI (vC (tB t6) s (e - s)), hs1, he1, he2, fun _ => hlt, by decide, ?_, ?_, Or.inr (Or.inr (Or.inr (Or.inr ⟨rfl, Or.inl rfl⟩))), fun w => absurd w (by decide)⟩
        · by_cases z48 : tB t6 s = 48
          · rw [z48, if_pos (show nI 48 = 48 from rfl)]
            by_cases l1 : e - s ≤ 1
            · have g99 : 99 < vC (tB t6) s (e - s) := by
                rcases Nat.lt_or_ge 99 (vC (tB t6) s (e - s)) with w | w
                · exact w
                · exact absurd ⟨by omega, fun _ => l1⟩ ok5
              rw [if_pos (show nI (e - s) ≤ 1 from nI_le (b := 1) l1 (by decide)), f_X3_readNumber_J105, if_pos (show 99 < nI (vC (tB t6) s (e - s)) from nI_lt (a := 99) g99 (by omega)), f_X3_readNumber_J126]
              rfl
            · rw [if_neg (show ¬ nI (e - s) ≤ 1 from nI_ge (a := 1) (by omega) (by omega)), f_X3_readNumber_J105, if_neg n10, f_X3_readNumber_J126, ite_self]
              rfl
          · have g99 : 99 < vC (tB t6) s (e - s) := by
              rcases Nat.lt_or_ge 99 (vC (tB t6) s (e - s)) with w | w
              · exact w
              · exact absurd ⟨by omega, fun p => absurd p z48⟩ ok5
            rw [if_neg (show ¬ nI (tB t6 s) = 48 from fun w => z48 ((nI_eq (b := 48) (by omega) (by decide)).mp w)), f_X3_readNumber_J105, if_pos (show 99 < nI (vC (tB t6) s (e - s)) from nI_lt (a := 99) g99 (by omega)), f_X3_readNumber_J126]
            rfl
        · by_cases l3 : e - s < 3
          · rw [if_neg (show ¬ (3 : Int32) ≤ nI (e - s) from nI_ge (b := 3) l3 (by decide))]
            have z48 : tB t6 s = 48 := by
              by_cases w : tB t6 s = 48
              · exact w
              · exact absurd ⟨l3, fun p => absurd p w⟩ ok
            have n1 : ¬ e - s = 1 := fun p => ok ⟨l3, fun _ => p⟩
            rw [z48, if_pos (show nI 48 = 48 from rfl), if_neg (show ¬ nI (e - s) = 1 from fun w => n1 ((nI_eq (b := 1) (by omega) (by decide)).mp w)), f_X6_next_J274]
          · rw [if_pos (show (3 : Int32) ≤ nI (e - s) from nI_le (a := 3) (by omega) (by omega)), f_X6_next_J274]
    · rw [if_neg qd]
      by_cases ql : isL (tB t6 s) = true
      · rw [if_pos ql, if_pos ql]
        obtain ⟨e, he1, he2, he3, he4⟩ := scan_ex (fun k => isL (tB t6 k)) nT (nT - s) s rfl hs2
        have hlt : s < e := by
          rcases Nat.lt_or_ge s e with w | w
          · exact w
          · have : s = e := by omega
            rw [← this] at he4
            rw [he4 q] at ql
            exact absurd ql (by decide)
        have hall : ∀ k, k < e - s → 97 ≤ tB t6 (s + k) ∧ tB t6 (s + k) ≤ 122 := fun k hk => rg_m (he3 (s + k) (by omega) (by omega))
        obtain ⟨tk, h5, hor⟩ := word5 (x := y) h he1 he2 he3 he4
        have hw := word6 (x := 1) (y := z') h he1 he2 he3 he4
        rw [h5, hw, Option.bind_some]
        have hlw := wv_lt (B := tB t6) (s := s) (L := e - s) hall
        rcases hor with ⟨htk, hwe⟩ | ⟨htk, hno⟩
        · refine ⟨e, s, tk, 0, 1, z', lN (wv (tB t6) s (e - s)), z, hs1, he1, he2, fun _ => hlt, by omega, rfl, rfl, Or.inr (Or.inl ⟨htk, rfl, by rw [(we_iff htk hall).mpr hwe]⟩), fun w => by omega⟩
        · subst htk
          exact ⟨e, s, 7, 0, 1, z', lN (wv (tB t6) s (e - s)), z, hs1, he1, he2, fun _ => hlt, by decide, rfl, rfl, Or.inr (Or.inr (Or.inr (Or.inr ⟨rfl, Or.inr ⟨rfl, _, rfl, hlw, fun k hk w => hno k hk ((we_iff hk hall).mp w)⟩⟩))), fun w => by omega⟩
      · rw [if_neg ql, if_neg ql, if_neg qd, tx_at h q]
        by_cases q59 : tB t6 s = 59
        · rw [q59, if_pos (show nI 59 = 59 from rfl), if_pos (show nI 59 = 59 from rfl), f_X3_readToken_J127, f_X6_next_J292, nI_1]
          exact ⟨s + 1, s, 5, 0, 3, z', w', z, hs1, by omega, by omega, fun _ => by omega, by decide, rfl, rfl, Or.inr (Or.inr (Or.inr (Or.inl ⟨rfl, rfl⟩))), fun w => by omega⟩
        · have hne : ¬ nI (tB t6 s) = 59 := fun w => q59 ((nI_eq (b := 59) (by omega) (by decide)).mp w)
          rw [if_neg hne, if_neg hne, f_X3_readToken_J127, f_X6_next_J292, nI_1]
          exact ⟨s + 1, s, 7, 0, 4, z', w', z, hs1, by omega, by omega, fun _ => by omega, by decide, rfl, rfl, Or.inr (Or.inr (Or.inr (Or.inr ⟨rfl, Or.inl rfl⟩))), fun w => by omega⟩
  · have hs : s = nT := by omega
    subst hs
    rw [if_neg (nI_nlt (Nat.le_refl _) (by omega)), byte_out h (Nat.le_refl _) (by omega), Option.bind_some, if_neg (by decide)]
    exact ⟨s, s, 6, 0, 0, z', w', z, hs1, Nat.le_refl _, Nat.le_refl _, fun w => absurd rfl w, by decide, rfl, rfl, Or.inl ⟨rfl, rfl⟩, fun w => by omega⟩
