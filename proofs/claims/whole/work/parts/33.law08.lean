set_option maxHeartbeats 8000000 in
set_option maxRecDepth 100000 in
theorem law_heard {Rel : RelT} {p : Program} {e : Env} {s : State} {m : MethodId} {below : List Frame} {meth : Method} {c : Code} (l : Launch) {b L : Nat} {xs : Nat → Int32} {dC : Nat → ClassId} {dI : Nat → Nat → Nat} {cI cZ : ClassId} {tL tM tN : Nat} {adK adV : Nat → Nat} {ad : Nat → Nat}
    (hL : L ≤ 320) (C0 : lw_At p s m meth c b L xs) (hK : va_K (dC, dI) vwCl [(cI, .int), (cZ, .boolean)] s) (hN : NW s) (hE : EV tL tM tN adK adV (fun q : Nat => s.heap.size ≤ q) s s.heap) (hop : OpS_heard Rel)
    {x3 : Int32} (h0 : vp_in (x3 + 1) L) (h1 : vp_in (x3 + 2) L) (h2 : vp_in (x3 + 3) L) (h3 : vp_in (x3 + 4) L) (kont : ∀ (sc : Nat → Int32) (ar : Nat → Nat → Int32) (lg : Nat → Int64) (H : Heap) (locs : List Loc), Rel sc ar lg → va_P (dC, dI) vwCl (LW cI cZ ad sc ar lg) H → va_D (fun q : Nat => s.heap.size ≤ q) (LW cI cZ ad sc ar lg) → va_S (fun q : Nat => s.heap.size ≤ q) s.heap H locs → ∀ ls : Array Slot, lv_has ls 4 [(0, .ref b), (1, .ref (ad 0)), (2, .ref (ad 52)), (3, .int x3)] → W p l e room_1 s m #[Value.ref b] below meth c H locs 65 2010 (lw_Z below #[Value.ref b] s) (F0 m 951 ls []))
    (sc : Nat → Int32) (ar : Nat → Nat → Int32) (lg : Nat → Int64) (H : Heap) (locs : List Loc) (hR : Rel sc ar lg) (hP : va_P (dC, dI) vwCl (LW cI cZ ad sc ar lg) H) (hD : va_D (fun q : Nat => s.heap.size ≤ q) (LW cI cZ ad sc ar lg)) (hS : va_S (fun q : Nat => s.heap.size ≤ q) s.heap H locs) (ls : Array Slot) (hl : lv_has ls 4 [(0, .ref b), (1, .ref (ad 0)), (2, .ref (ad 52)), (3, .int x3)]) : W p l e room_1 s m #[Value.ref b] below meth c H locs 65 2010 (lw_Z below #[Value.ref b] s) (F0 m 614 ls []) := by
  obtain ⟨hx, hb, hr, hml, hown, hts0, hX, hbl, hlocks, hgv⟩ := id C0
  have hts := fun w h => hts0 w (wsL_law_in w h)
  have hA : ∀ q : Nat, s.heap.size ≤ q → (fun q : Nat => s.heap.size ≤ q) q := fun _ h => h
  have hbA : ¬ (fun q : Nat => s.heap.size ≤ q) b := Nat.not_le.mpr hbl
  obtain ⟨q, q', hq, hq', heq, hR'⟩ := hop sc ar lg hR (xs (x3 + 1).toNatClampNeg) (xs (x3 + 2).toNatClampNeg) (xs (x3 + 3).toNatClampNeg) (xs (x3 + 4).toNatClampNeg)
  refine lv_aload_n hx hb dL_law_614 rfl (lv_at hl 1 rfl) ?_
  refine lv_aload_n hx hb dL_law_615 rfl (lv_at hl 0 rfl) ?_
  refine lv_iload_n hx hb dL_law_616 rfl (lv_at hl 3 rfl) ?_
  refine lv_iconst (v := 1) hx hb dL_law_617 (by decide) ?_
  refine lv_iadd hx hb dL_law_618 ?_
  refine va_sld hx hb hX hbl hbA hS h0 dL_law_619 ?_
  refine lv_aload_n hx hb dL_law_620 rfl (lv_at hl 0 rfl) ?_
  refine lv_iload_n hx hb dL_law_621 rfl (lv_at hl 3 rfl) ?_
  refine lv_iconst (v := 2) hx hb dL_law_622 (by decide) ?_
  refine lv_iadd hx hb dL_law_623 ?_
  refine va_sld hx hb hX hbl hbA hS h1 dL_law_624 ?_
  refine lv_aload_n hx hb dL_law_625 rfl (lv_at hl 0 rfl) ?_
  refine lv_iload_n hx hb dL_law_626 rfl (lv_at hl 3 rfl) ?_
  refine lv_iconst (v := 3) hx hb dL_law_627 (by decide) ?_
  refine lv_iadd hx hb dL_law_628 ?_
  refine va_sld hx hb hX hbl hbA hS h2 dL_law_629 ?_
  refine lv_aload_n hx hb dL_law_630 rfl (lv_at hl 0 rfl) ?_
  refine lv_iload_n hx hb dL_law_631 rfl (lv_at hl 3 rfl) ?_
  refine lv_iconst (v := 4) hx hb dL_law_632 (by decide) ?_
  refine lv_iadd hx hb dL_law_633 ?_
  refine va_sld hx hb hX hbl hbA hS h3 dL_law_634 ?_
  have hPc : va_P (dC, dI) vwCl [(ad 0, .inr (5, [.ref (ad 41), .ref (ad 38), .ref (ad 43), .ref (ad 1), .ref (ad 28), .ref (ad 19), .ref (ad 10), .ref (ad 40), .ref (ad 37), .int (sc 0), .long (lg 0)])), (ad 28, .inr (0, [.ref (ad 33), .ref (ad 29), .ref (ad 31), .ref (ad 35)])), (ad 31, .inr (2, [.int (sc 27), .ref (ad 32), .int (sc 28)])), (ad 32, .inl (cI, 48, .inl (ar 13))), (ad 33, .inr (2, [.int (sc 29), .ref (ad 34), .int (sc 30)]))] H := hP.sub [0, 28, 31, 32, 33] rfl
  have hDc : va_D (fun q : Nat => s.heap.size ≤ q) [(ad 0, .inr (5, [.ref (ad 41), .ref (ad 38), .ref (ad 43), .ref (ad 1), .ref (ad 28), .ref (ad 19), .ref (ad 10), .ref (ad 40), .ref (ad 37), .int (sc 0), .long (lg 0)])), (ad 28, .inr (0, [.ref (ad 33), .ref (ad 29), .ref (ad 31), .ref (ad 35)])), (ad 31, .inr (2, [.int (sc 27), .ref (ad 32), .int (sc 28)])), (ad 32, .inl (cI, 48, .inl (ar 13))), (ad 33, .inr (2, [.int (sc 29), .ref (ad 34), .int (sc 30)]))] := hD.sub [0, 28, 31, 32, 33] (by decide) rfl
  have hFc := va_free (wc := [(ad 0, .inr (5, [.ref (ad 41), .ref (ad 38), .ref (ad 43), .ref (ad 1), .ref (ad 28), .ref (ad 19), .ref (ad 10), .ref (ad 40), .ref (ad 37), .int (sc 0), .long (lg 0)])), (ad 28, .inr (0, [.ref (ad 33), .ref (ad 29), .ref (ad 31), .ref (ad 35)])), (ad 31, .inr (2, [.int (sc 27), .ref (ad 32), .int (sc 28)])), (ad 32, .inl (cI, 48, .inl (ar 13))), (ad 33, .inr (2, [.int (sc 29), .ref (ad 34), .int (sc 30)]))]) hD hS hA [0, 28, 31, 32, 33] rfl
  refine va_calli (va_runV (As := [.int (xs (x3 + 1).toNatClampNeg), .int (xs (x3 + 2).toNatClampNeg), .int (xs (x3 + 3).toNatClampNeg), .int (xs (x3 + 4).toNatClampNeg)]) (rest := []) ⟨hx, hb, hml, hown, hts⟩ (c_X5_heard l dC dI cI cZ H.size (ad 1) (ad 10) (ad 19) (ad 28) (ad 29) (ad 31) (ad 32) (ad 33) (ad 34) (ad 35) (ad 37) (ad 38) (ad 40) (ad 41) (ad 0) (ad 43) (sc 0) (lg 0) (sc 27) (sc 28) (ar 13) (sc 29) (sc 30) (xs (x3 + 1).toNatClampNeg) (xs (x3 + 2).toNatClampNeg) (xs (x3 + 3).toNatClampNeg) (xs (x3 + 4).toNatClampNeg) q hq) (cwV 4 hts gL_law_X5_heard rfl rfl rfl (by decide +kernel) ⟨Nat.le_of_ble_eq_true rfl, Nat.le_of_ble_eq_true rfl⟩) ⟨fun a U g mk q9 => ⟨q9.1, PC.mv q9.2⟩, va_recv hK hP (ci := 5) (q0 := 0) rfl rfl, fun U hU hW => ⟨rfl, PC.of hU hW hPc hK hDc hN⟩⟩ rfl rfl hl.1 rfl (lv_room (Nat.le_of_ble_eq_true rfl)) dL_law_635 ⟨Nat.le_of_ble_eq_true rfl, Nat.le_of_ble_eq_true rfl⟩) hS (fun q9 _ h => hFc q9 h) hFc (fun r_635 u t H1 locs ht hvm hw hB hz1 hk1 hS => ?_)
  obtain ⟨hP1, hD1⟩ := hB
  try dsimp only at hw
  rw [hw]
  rw [ht] at hP1
  have h9 := va_join (wr := [1, 2, 3, 4, 5, 6, 7, 8, 9, 10, 11, 12, 13, 14, 15, 16, 17, 18, 19, 20, 21, 22, 23, 24, 25, 26, 27, 29, 30, 34, 35, 36, 37, 38, 39, 40, 41, 42, 43, 44, 45, 46, 47, 48, 49, 50, 51, 52, 53, 54, 55, 56, 57, 58, 59, 60, 61, 62, 63, 64].filterMap (fun i => (LW cI cZ ad sc ar lg)[i]?)) (w1 := [(ad 0, .inr (5, [.ref (ad 41), .ref (ad 38), .ref (ad 43), .ref (ad 1), .ref (ad 28), .ref (ad 19), .ref (ad 10), .ref (ad 40), .ref (ad 37), .int (sc 0), .long (lg 0)])), (ad 28, .inr (0, [.ref (ad 33), .ref (ad 29), .ref (ad 31), .ref (ad 35)])), (ad 31, .inr (2, [.int (sc 27), .ref (ad 32), .int q.2.1])), (ad 32, .inl (cI, 48, .inl q.2.2)), (ad 33, .inr (2, [.int (sc 29), .ref (ad 34), .int (sc 30)]))]) hP hD [0, 28, 31, 32, 33] [1, 2, 3, 4, 5, 6, 7, 8, 9, 10, 11, 12, 13, 14, 15, 16, 17, 18, 19, 20, 21, 22, 23, 24, 25, 26, 27, 29, 30, 34, 35, 36, 37, 38, 39, 40, 41, 42, 43, 44, 45, 46, 47, 48, 49, 50, 51, 52, 53, 54, 55, 56, 57, 58, 59, 60, 61, 62, 63, 64] rfl rfl (by decide) (by decide) hk1 hFc hP1 hD1
  have hP : va_P (dC, dI) vwCl (LW cI cZ ad (uv sc 28 q.2.1) (uv ar 13 q.2.2) lg) H1 := h9.1.sub [60, 0, 1, 2, 3, 4, 5, 6, 7, 8, 9, 10, 11, 12, 13, 14, 15, 16, 17, 18, 19, 20, 21, 22, 23, 24, 25, 26, 61, 27, 28, 62, 63, 64, 29, 30, 31, 32, 33, 34, 35, 36, 37, 38, 39, 40, 41, 42, 43, 44, 45, 46, 47, 48, 49, 50, 51, 52, 53, 54, 55, 56, 57, 58, 59] rfl
  have hD : va_D (fun q : Nat => s.heap.size ≤ q) (LW cI cZ ad (uv sc 28 q.2.1) (uv ar 13 q.2.2) lg) := h9.2.sub [60, 0, 1, 2, 3, 4, 5, 6, 7, 8, 9, 10, 11, 12, 13, 14, 15, 16, 17, 18, 19, 20, 21, 22, 23, 24, 25, 26, 61, 27, 28, 62, 63, 64, 29, 30, 31, 32, 33, 34, 35, 36, 37, 38, 39, 40, 41, 42, 43, 44, 45, 46, 47, 48, 49, 50, 51, 52, 53, 54, 55, 56, 57, 58, 59] (by decide) rfl
  clear h9
  clear hPc hDc hFc hk1 hz1 hP1 hD1 ht hvm
  generalize H1 = H at hP hS ⊢
  refine lv_aload_n hx hb dL_law_638 rfl (lv_at hl 2 rfl) ?_
  refine lv_aload_n hx hb dL_law_639 rfl (lv_at hl 0 rfl) ?_
  refine lv_iload_n hx hb dL_law_640 rfl (lv_at hl 3 rfl) ?_
  refine lv_iconst (v := 1) hx hb dL_law_641 (by decide) ?_
  refine lv_iadd hx hb dL_law_642 ?_
  refine va_sld hx hb hX hbl hbA hS h0 dL_law_643 ?_
  refine lv_aload_n hx hb dL_law_644 rfl (lv_at hl 0 rfl) ?_
  refine lv_iload_n hx hb dL_law_645 rfl (lv_at hl 3 rfl) ?_
  refine lv_iconst (v := 2) hx hb dL_law_646 (by decide) ?_
  refine lv_iadd hx hb dL_law_647 ?_
  refine va_sld hx hb hX hbl hbA hS h1 dL_law_648 ?_
  refine lv_aload_n hx hb dL_law_649 rfl (lv_at hl 0 rfl) ?_
  refine lv_iload_n hx hb dL_law_650 rfl (lv_at hl 3 rfl) ?_
  refine lv_iconst (v := 3) hx hb dL_law_651 (by decide) ?_
  refine lv_iadd hx hb dL_law_652 ?_
  refine va_sld hx hb hX hbl hbA hS h2 dL_law_653 ?_
  refine lv_aload_n hx hb dL_law_654 rfl (lv_at hl 0 rfl) ?_
  refine lv_iload_n hx hb dL_law_655 rfl (lv_at hl 3 rfl) ?_
  refine lv_iconst (v := 4) hx hb dL_law_656 (by decide) ?_
  refine lv_iadd hx hb dL_law_657 ?_
  refine va_sld hx hb hX hbl hbA hS h3 dL_law_658 ?_
  have hPc : va_P (dC, dI) vwCl [(ad 52, .inr (6, [.int (sc 46), .int (sc 47), .ref (ad 62), .int (sc 48), .ref (ad 56), .int (sc 49), .ref (ad 53), .ref (ad 63), .ref (ad 54), .ref (ad 55), .long (lg 1), .ref (ad 64), .int (sc 50), .int (sc 51), .int (sc 52), .int (sc 53), .int (sc 54), .long (lg 2), .int (sc 55), .int (sc 56), .ref (ad 59), .int (sc 57), .ref (ad 61), .int (sc 58), .ref (ad 60), .int (sc 59), .ref (ad 58), .ref (ad 57), .int (sc 60), .int (sc 61)])), (ad 63, .inl (cI, 104, .inl (ar 34)))] H := hP.sub [52, 63] rfl
  have hDc : va_D (fun q : Nat => s.heap.size ≤ q) [(ad 52, .inr (6, [.int (sc 46), .int (sc 47), .ref (ad 62), .int (sc 48), .ref (ad 56), .int (sc 49), .ref (ad 53), .ref (ad 63), .ref (ad 54), .ref (ad 55), .long (lg 1), .ref (ad 64), .int (sc 50), .int (sc 51), .int (sc 52), .int (sc 53), .int (sc 54), .long (lg 2), .int (sc 55), .int (sc 56), .ref (ad 59), .int (sc 57), .ref (ad 61), .int (sc 58), .ref (ad 60), .int (sc 59), .ref (ad 58), .ref (ad 57), .int (sc 60), .int (sc 61)])), (ad 63, .inl (cI, 104, .inl (ar 34)))] := hD.sub [52, 63] (by decide) rfl
  have hFc := va_free (wc := [(ad 52, .inr (6, [.int (sc 46), .int (sc 47), .ref (ad 62), .int (sc 48), .ref (ad 56), .int (sc 49), .ref (ad 53), .ref (ad 63), .ref (ad 54), .ref (ad 55), .long (lg 1), .ref (ad 64), .int (sc 50), .int (sc 51), .int (sc 52), .int (sc 53), .int (sc 54), .long (lg 2), .int (sc 55), .int (sc 56), .ref (ad 59), .int (sc 57), .ref (ad 61), .int (sc 58), .ref (ad 60), .int (sc 59), .ref (ad 58), .ref (ad 57), .int (sc 60), .int (sc 61)])), (ad 63, .inl (cI, 104, .inl (ar 34)))]) hD hS hA [52, 63] rfl
  refine va_calli (va_runV (As := [.int (xs (x3 + 1).toNatClampNeg), .int (xs (x3 + 2).toNatClampNeg), .int (xs (x3 + 3).toNatClampNeg), .int (xs (x3 + 4).toNatClampNeg)]) (rest := [.int q.1]) ⟨hx, hb, hml, hown, hts⟩ (c_X6_heard l dC dI cI cZ H.size (ad 53) (ad 54) (ad 55) (ad 56) (ad 57) (ad 58) (ad 59) (ad 60) (ad 61) (ad 62) (ad 63) (ad 64) (ad 52) (sc 46) (sc 47) (sc 48) (sc 49) (lg 1) (sc 50) (sc 51) (sc 52) (sc 53) (sc 54) (lg 2) (sc 55) (sc 56) (sc 57) (sc 58) (sc 59) (sc 60) (sc 61) (ar 34) (xs (x3 + 1).toNatClampNeg) (xs (x3 + 2).toNatClampNeg) (xs (x3 + 3).toNatClampNeg) (xs (x3 + 4).toNatClampNeg) q' hq') (cwV 4 hts gL_law_X6_heard rfl rfl rfl (by decide +kernel) ⟨Nat.le_of_ble_eq_true rfl, Nat.le_of_ble_eq_true rfl⟩) ⟨fun a U g mk q9 => ⟨q9.1, PC.mv q9.2⟩, va_recv hK hP (ci := 6) (q0 := 52) rfl rfl, fun U hU hW => ⟨rfl, PC.of hU hW hPc hK hDc hN⟩⟩ rfl rfl hl.1 rfl (lv_room (Nat.le_of_ble_eq_true rfl)) dL_law_659 ⟨Nat.le_of_ble_eq_true rfl, Nat.le_of_ble_eq_true rfl⟩) hS (fun q9 _ h => hFc q9 h) hFc (fun r_659 u t H1 locs ht hvm hw hB hz1 hk1 hS => ?_)
  obtain ⟨hP1, hD1⟩ := hB
  try dsimp only at hw
  rw [hw]
  rw [ht] at hP1
  have h9 := va_join (wr := [0, 1, 2, 3, 4, 5, 6, 7, 8, 9, 10, 11, 12, 13, 14, 15, 16, 17, 18, 19, 20, 21, 22, 23, 24, 25, 26, 27, 28, 29, 30, 31, 32, 33, 34, 35, 36, 37, 38, 39, 40, 41, 42, 43, 44, 45, 46, 47, 48, 49, 50, 51, 53, 54, 55, 56, 57, 58, 59, 60, 61, 62, 64].filterMap (fun i => (LW cI cZ ad (uv sc 28 q.2.1) (uv ar 13 q.2.2) lg)[i]?)) (w1 := [(ad 52, .inr (6, [.int (sc 46), .int (sc 47), .ref (ad 62), .int (sc 48), .ref (ad 56), .int (sc 49), .ref (ad 53), .ref (ad 63), .ref (ad 54), .ref (ad 55), .long (lg 1), .ref (ad 64), .int (sc 50), .int (sc 51), .int (sc 52), .int (sc 53), .int (sc 54), .long (lg 2), .int (sc 55), .int (sc 56), .ref (ad 59), .int (sc 57), .ref (ad 61), .int (sc 58), .ref (ad 60), .int (sc 59), .ref (ad 58), .ref (ad 57), .int (sc 60), .int (sc 61)])), (ad 63, .inl (cI, 104, .inl q'.2))]) hP hD [52, 63] [0, 1, 2, 3, 4, 5, 6, 7, 8, 9, 10, 11, 12, 13, 14, 15, 16, 17, 18, 19, 20, 21, 22, 23, 24, 25, 26, 27, 28, 29, 30, 31, 32, 33, 34, 35, 36, 37, 38, 39, 40, 41, 42, 43, 44, 45, 46, 47, 48, 49, 50, 51, 53, 54, 55, 56, 57, 58, 59, 60, 61, 62, 64] rfl rfl (by decide) (by decide) hk1 hFc hP1 hD1
  have hP : va_P (dC, dI) vwCl (LW cI cZ ad (uv sc 28 q.2.1) (uv (uv ar 13 q.2.2) 34 q'.2) lg) H1 := h9.1.sub [0, 1, 2, 3, 4, 5, 6, 7, 8, 9, 10, 11, 12, 13, 14, 15, 16, 17, 18, 19, 20, 21, 22, 23, 24, 25, 26, 27, 28, 29, 30, 31, 32, 33, 34, 35, 36, 37, 38, 39, 40, 41, 42, 43, 44, 45, 46, 47, 48, 49, 50, 51, 63, 52, 53, 54, 55, 56, 57, 58, 59, 60, 61, 64, 62] rfl
  have hD : va_D (fun q : Nat => s.heap.size ≤ q) (LW cI cZ ad (uv sc 28 q.2.1) (uv (uv ar 13 q.2.2) 34 q'.2) lg) := h9.2.sub [0, 1, 2, 3, 4, 5, 6, 7, 8, 9, 10, 11, 12, 13, 14, 15, 16, 17, 18, 19, 20, 21, 22, 23, 24, 25, 26, 27, 28, 29, 30, 31, 32, 33, 34, 35, 36, 37, 38, 39, 40, 41, 42, 43, 44, 45, 46, 47, 48, 49, 50, 51, 63, 52, 53, 54, 55, 56, 57, 58, 59, 60, 61, 64, 62] (by decide) rfl
  clear h9
  clear hPc hDc hFc hk1 hz1 hP1 hD1 ht hvm
  generalize H1 = H at hP hS ⊢
  refine lv_icmp_eq (tgt := 951) hx hb dL_law_662 (by decide) (fun _ => ?_) (fun c9 => absurd heq c9)
  exact kont _ _ _ H locs hR' hP hD hS ls hl
set_option maxHeartbeats 8000000 in
set_option maxRecDepth 100000 in
theorem law_forget {Rel : RelT} {p : Program} {e : Env} {s : State} {m : MethodId} {below : List Frame} {meth : Method} {c : Code} (l : Launch) {b L : Nat} {xs : Nat → Int32} {dC : Nat → ClassId} {dI : Nat → Nat → Nat} {cI cZ : ClassId} {tL tM tN : Nat} {adK adV : Nat → Nat} {ad : Nat → Nat}
    (hL : L ≤ 320) (C0 : lw_At p s m meth c b L xs) (hK : va_K (dC, dI) vwCl [(cI, .int), (cZ, .boolean)] s) (hN : NW s) (hE : EV tL tM tN adK adV (fun q : Nat => s.heap.size ≤ q) s s.heap) (hop : OpS_forget Rel)
    {x3 : Int32} (h0 : vp_in (x3 + 1) L) (h1 : vp_in (x3 + 2) L) (h2 : vp_in (x3 + 3) L) (h3 : vp_in (x3 + 4) L) (kont : ∀ (sc : Nat → Int32) (ar : Nat → Nat → Int32) (lg : Nat → Int64) (H : Heap) (locs : List Loc), Rel sc ar lg → va_P (dC, dI) vwCl (LW cI cZ ad sc ar lg) H → va_D (fun q : Nat => s.heap.size ≤ q) (LW cI cZ ad sc ar lg) → va_S (fun q : Nat => s.heap.size ≤ q) s.heap H locs → ∀ ls : Array Slot, lv_has ls 4 [(0, .ref b), (1, .ref (ad 0)), (2, .ref (ad 52)), (3, .int x3)] → W p l e room_1 s m #[Value.ref b] below meth c H locs 65 2010 (lw_Z below #[Value.ref b] s) (F0 m 951 ls []))
    (sc : Nat → Int32) (ar : Nat → Nat → Int32) (lg : Nat → Int64) (H : Heap) (locs : List Loc) (hR : Rel sc ar lg) (hP : va_P (dC, dI) vwCl (LW cI cZ ad sc ar lg) H) (hD : va_D (fun q : Nat => s.heap.size ≤ q) (LW cI cZ ad sc ar lg)) (hS : va_S (fun q : Nat => s.heap.size ≤ q) s.heap H locs) (ls : Array Slot) (hl : lv_has ls 4 [(0, .ref b), (1, .ref (ad 0)), (2, .ref (ad 52)), (3, .int x3)]) : W p l e room_1 s m #[Value.ref b] below meth c H locs 65 2010 (lw_Z below #[Value.ref b] s) (F0 m 667 ls []) := by
  obtain ⟨hx, hb, hr, hml, hown, hts0, hX, hbl, hlocks, hgv⟩ := id C0
  have hts := fun w h => hts0 w (wsL_law_in w h)
  have hA : ∀ q : Nat, s.heap.size ≤ q → (fun q : Nat => s.heap.size ≤ q) q := fun _ h => h
  have hbA : ¬ (fun q : Nat => s.heap.size ≤ q) b := Nat.not_le.mpr hbl
  obtain ⟨q, q', hq, hq', heq, hR'⟩ := hop sc ar lg hR
  refine lv_aload_n hx hb dL_law_667 rfl (lv_at hl 1 rfl) ?_
  have hPc : va_P (dC, dI) vwCl [(ad 0, .inr (5, [.ref (ad 41), .ref (ad 38), .ref (ad 43), .ref (ad 1), .ref (ad 28), .ref (ad 19), .ref (ad 10), .ref (ad 40), .ref (ad 37), .int (sc 0), .long (lg 0)])), (ad 28, .inr (0, [.ref (ad 33), .ref (ad 29), .ref (ad 31), .ref (ad 35)])), (ad 31, .inr (2, [.int (sc 27), .ref (ad 32), .int (sc 28)]))] H := hP.sub [0, 28, 31] rfl
  have hDc : va_D (fun q : Nat => s.heap.size ≤ q) [(ad 0, .inr (5, [.ref (ad 41), .ref (ad 38), .ref (ad 43), .ref (ad 1), .ref (ad 28), .ref (ad 19), .ref (ad 10), .ref (ad 40), .ref (ad 37), .int (sc 0), .long (lg 0)])), (ad 28, .inr (0, [.ref (ad 33), .ref (ad 29), .ref (ad 31), .ref (ad 35)])), (ad 31, .inr (2, [.int (sc 27), .ref (ad 32), .int (sc 28)]))] := hD.sub [0, 28, 31] (by decide) rfl
  have hFc := va_free (wc := [(ad 0, .inr (5, [.ref (ad 41), .ref (ad 38), .ref (ad 43), .ref (ad 1), .ref (ad 28), .ref (ad 19), .ref (ad 10), .ref (ad 40), .ref (ad 37), .int (sc 0), .long (lg 0)])), (ad 28, .inr (0, [.ref (ad 33), .ref (ad 29), .ref (ad 31), .ref (ad 35)])), (ad 31, .inr (2, [.int (sc 27), .ref (ad 32), .int (sc 28)]))]) hD hS hA [0, 28, 31] rfl
  refine va_calli (va_runV (As := []) (rest := []) ⟨hx, hb, hml, hown, hts⟩ (c_X5_forget l dC dI cI cZ H.size (ad 1) (ad 10) (ad 19) (ad 28) (ad 29) (ad 31) (ad 32) (ad 33) (ad 35) (ad 37) (ad 38) (ad 40) (ad 41) (ad 0) (ad 43) (sc 0) (lg 0) (sc 27) (sc 28) q hq) (cwV 0 hts gL_law_X5_forget rfl rfl rfl (by decide +kernel) ⟨Nat.le_of_ble_eq_true rfl, Nat.le_of_ble_eq_true rfl⟩) ⟨fun a U g mk q9 => ⟨q9.1, PC.mv q9.2⟩, va_recv hK hP (ci := 5) (q0 := 0) rfl rfl, fun U hU hW => ⟨rfl, PC.of hU hW hPc hK hDc hN⟩⟩ rfl rfl hl.1 rfl (lv_room (Nat.le_of_ble_eq_true rfl)) dL_law_668 ⟨Nat.le_of_ble_eq_true rfl, Nat.le_of_ble_eq_true rfl⟩) hS (fun q9 _ h => hFc q9 h) hFc (fun r_668 u t H1 locs ht hvm hw hB hz1 hk1 hS => ?_)
  obtain ⟨hP1, hD1⟩ := hB
  try dsimp only at hw
  rw [hw]
  rw [ht] at hP1
  have h9 := va_join (wr := [1, 2, 3, 4, 5, 6, 7, 8, 9, 10, 11, 12, 13, 14, 15, 16, 17, 18, 19, 20, 21, 22, 23, 24, 25, 26, 27, 29, 30, 32, 33, 34, 35, 36, 37, 38, 39, 40, 41, 42, 43, 44, 45, 46, 47, 48, 49, 50, 51, 52, 53, 54, 55, 56, 57, 58, 59, 60, 61, 62, 63, 64].filterMap (fun i => (LW cI cZ ad sc ar lg)[i]?)) (w1 := [(ad 0, .inr (5, [.ref (ad 41), .ref (ad 38), .ref (ad 43), .ref (ad 1), .ref (ad 28), .ref (ad 19), .ref (ad 10), .ref (ad 40), .ref (ad 37), .int (sc 0), .long (lg 0)])), (ad 28, .inr (0, [.ref (ad 33), .ref (ad 29), .ref (ad 31), .ref (ad 35)])), (ad 31, .inr (2, [.int (sc 27), .ref (ad 32), .int q.2]))]) hP hD [0, 28, 31] [1, 2, 3, 4, 5, 6, 7, 8, 9, 10, 11, 12, 13, 14, 15, 16, 17, 18, 19, 20, 21, 22, 23, 24, 25, 26, 27, 29, 30, 32, 33, 34, 35, 36, 37, 38, 39, 40, 41, 42, 43, 44, 45, 46, 47, 48, 49, 50, 51, 52, 53, 54, 55, 56, 57, 58, 59, 60, 61, 62, 63, 64] rfl rfl (by decide) (by decide) hk1 hFc hP1 hD1
  have hP : va_P (dC, dI) vwCl (LW cI cZ ad (uv sc 28 q.2) ar lg) H1 := h9.1.sub [62, 0, 1, 2, 3, 4, 5, 6, 7, 8, 9, 10, 11, 12, 13, 14, 15, 16, 17, 18, 19, 20, 21, 22, 23, 24, 25, 26, 63, 27, 28, 64, 29, 30, 31, 32, 33, 34, 35, 36, 37, 38, 39, 40, 41, 42, 43, 44, 45, 46, 47, 48, 49, 50, 51, 52, 53, 54, 55, 56, 57, 58, 59, 60, 61] rfl
  have hD : va_D (fun q : Nat => s.heap.size ≤ q) (LW cI cZ ad (uv sc 28 q.2) ar lg) := h9.2.sub [62, 0, 1, 2, 3, 4, 5, 6, 7, 8, 9, 10, 11, 12, 13, 14, 15, 16, 17, 18, 19, 20, 21, 22, 23, 24, 25, 26, 63, 27, 28, 64, 29, 30, 31, 32, 33, 34, 35, 36, 37, 38, 39, 40, 41, 42, 43, 44, 45, 46, 47, 48, 49, 50, 51, 52, 53, 54, 55, 56, 57, 58, 59, 60, 61] (by decide) rfl
  clear h9
  clear hPc hDc hFc hk1 hz1 hP1 hD1 ht hvm
  generalize H1 = H at hP hS ⊢
  refine lv_aload_n hx hb dL_law_671 rfl (lv_at hl 2 rfl) ?_
  have hPc : va_P (dC, dI) vwCl [(ad 52, .inr (6, [.int (sc 46), .int (sc 47), .ref (ad 62), .int (sc 48), .ref (ad 56), .int (sc 49), .ref (ad 53), .ref (ad 63), .ref (ad 54), .ref (ad 55), .long (lg 1), .ref (ad 64), .int (sc 50), .int (sc 51), .int (sc 52), .int (sc 53), .int (sc 54), .long (lg 2), .int (sc 55), .int (sc 56), .ref (ad 59), .int (sc 57), .ref (ad 61), .int (sc 58), .ref (ad 60), .int (sc 59), .ref (ad 58), .ref (ad 57), .int (sc 60), .int (sc 61)])), (ad 63, .inl (cI, 104, .inl (ar 34)))] H := hP.sub [52, 63] rfl
  have hDc : va_D (fun q : Nat => s.heap.size ≤ q) [(ad 52, .inr (6, [.int (sc 46), .int (sc 47), .ref (ad 62), .int (sc 48), .ref (ad 56), .int (sc 49), .ref (ad 53), .ref (ad 63), .ref (ad 54), .ref (ad 55), .long (lg 1), .ref (ad 64), .int (sc 50), .int (sc 51), .int (sc 52), .int (sc 53), .int (sc 54), .long (lg 2), .int (sc 55), .int (sc 56), .ref (ad 59), .int (sc 57), .ref (ad 61), .int (sc 58), .ref (ad 60), .int (sc 59), .ref (ad 58), .ref (ad 57), .int (sc 60), .int (sc 61)])), (ad 63, .inl (cI, 104, .inl (ar 34)))] := hD.sub [52, 63] (by decide) rfl
  have hFc := va_free (wc := [(ad 52, .inr (6, [.int (sc 46), .int (sc 47), .ref (ad 62), .int (sc 48), .ref (ad 56), .int (sc 49), .ref (ad 53), .ref (ad 63), .ref (ad 54), .ref (ad 55), .long (lg 1), .ref (ad 64), .int (sc 50), .int (sc 51), .int (sc 52), .int (sc 53), .int (sc 54), .long (lg 2), .int (sc 55), .int (sc 56), .ref (ad 59), .int (sc 57), .ref (ad 61), .int (sc 58), .ref (ad 60), .int (sc 59), .ref (ad 58), .ref (ad 57), .int (sc 60), .int (sc 61)])), (ad 63, .inl (cI, 104, .inl (ar 34)))]) hD hS hA [52, 63] rfl
  refine va_calli (va_runV (As := []) (rest := [.int q.1]) ⟨hx, hb, hml, hown, hts⟩ (c_X6_forget l dC dI cI cZ H.size (ad 53) (ad 54) (ad 55) (ad 56) (ad 57) (ad 58) (ad 59) (ad 60) (ad 61) (ad 62) (ad 63) (ad 64) (ad 52) (sc 46) (sc 47) (sc 48) (sc 49) (lg 1) (sc 50) (sc 51) (sc 52) (sc 53) (sc 54) (lg 2) (sc 55) (sc 56) (sc 57) (sc 58) (sc 59) (sc 60) (sc 61) (ar 34) q' hq') (cwV 0 hts gL_law_X6_forget rfl rfl rfl (by decide +kernel) ⟨Nat.le_of_ble_eq_true rfl, Nat.le_of_ble_eq_true rfl⟩) ⟨fun a U g mk q9 => ⟨q9.1, PC.mv q9.2⟩, va_recv hK hP (ci := 6) (q0 := 52) rfl rfl, fun U hU hW => ⟨rfl, PC.of hU hW hPc hK hDc hN⟩⟩ rfl rfl hl.1 rfl (lv_room (Nat.le_of_ble_eq_true rfl)) dL_law_672 ⟨Nat.le_of_ble_eq_true rfl, Nat.le_of_ble_eq_true rfl⟩) hS (fun q9 _ h => hFc q9 h) hFc (fun r_672 u t H1 locs ht hvm hw hB hz1 hk1 hS => ?_)
  obtain ⟨hP1, hD1⟩ := hB
  try dsimp only at hw
  rw [hw]
  rw [ht] at hP1
  have h9 := va_join (wr := [0, 1, 2, 3, 4, 5, 6, 7, 8, 9, 10, 11, 12, 13, 14, 15, 16, 17, 18, 19, 20, 21, 22, 23, 24, 25, 26, 27, 28, 29, 30, 31, 32, 33, 34, 35, 36, 37, 38, 39, 40, 41, 42, 43, 44, 45, 46, 47, 48, 49, 50, 51, 53, 54, 55, 56, 57, 58, 59, 60, 61, 62, 64].filterMap (fun i => (LW cI cZ ad (uv sc 28 q.2) ar lg)[i]?)) (w1 := [(ad 52, .inr (6, [.int (sc 46), .int (sc 47), .ref (ad 62), .int (sc 48), .ref (ad 56), .int (sc 49), .ref (ad 53), .ref (ad 63), .ref (ad 54), .ref (ad 55), .long (lg 1), .ref (ad 64), .int (sc 50), .int (sc 51), .int (sc 52), .int (sc 53), .int (sc 54), .long (lg 2), .int (sc 55), .int (sc 56), .ref (ad 59), .int (sc 57), .ref (ad 61), .int (sc 58), .ref (ad 60), .int (sc 59), .ref (ad 58), .ref (ad 57), .int (sc 60), .int (sc 61)])), (ad 63, .inl (cI, 104, .inl q'.2))]) hP hD [52, 63] [0, 1, 2, 3, 4, 5, 6, 7, 8, 9, 10, 11, 12, 13, 14, 15, 16, 17, 18, 19, 20, 21, 22, 23, 24, 25, 26, 27, 28, 29, 30, 31, 32, 33, 34, 35, 36, 37, 38, 39, 40, 41, 42, 43, 44, 45, 46, 47, 48, 49, 50, 51, 53, 54, 55, 56, 57, 58, 59, 60, 61, 62, 64] rfl rfl (by decide) (by decide) hk1 hFc hP1 hD1
  have hP : va_P (dC, dI) vwCl (LW cI cZ ad (uv sc 28 q.2) (uv ar 34 q'.2) lg) H1 := h9.1.sub [0, 1, 2, 3, 4, 5, 6, 7, 8, 9, 10, 11, 12, 13, 14, 15, 16, 17, 18, 19, 20, 21, 22, 23, 24, 25, 26, 27, 28, 29, 30, 31, 32, 33, 34, 35, 36, 37, 38, 39, 40, 41, 42, 43, 44, 45, 46, 47, 48, 49, 50, 51, 63, 52, 53, 54, 55, 56, 57, 58, 59, 60, 61, 64, 62] rfl
  have hD : va_D (fun q : Nat => s.heap.size ≤ q) (LW cI cZ ad (uv sc 28 q.2) (uv ar 34 q'.2) lg) := h9.2.sub [0, 1, 2, 3, 4, 5, 6, 7, 8, 9, 10, 11, 12, 13, 14, 15, 16, 17, 18, 19, 20, 21, 22, 23, 24, 25, 26, 27, 28, 29, 30, 31, 32, 33, 34, 35, 36, 37, 38, 39, 40, 41, 42, 43, 44, 45, 46, 47, 48, 49, 50, 51, 63, 52, 53, 54, 55, 56, 57, 58, 59, 60, 61, 64, 62] (by decide) rfl
  clear h9
  clear hPc hDc hFc hk1 hz1 hP1 hD1 ht hvm
  generalize H1 = H at hP hS ⊢
  refine lv_icmp_eq (tgt := 951) hx hb dL_law_675 (by decide) (fun _ => ?_) (fun c9 => absurd heq c9)
  exact kont _ _ _ H locs hR' hP hD hS ls hl
