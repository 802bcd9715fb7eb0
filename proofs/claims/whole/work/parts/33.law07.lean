set_option maxHeartbeats 8000000 in
set_option maxRecDepth 100000 in
theorem law_chance {Rel : RelT} {p : Program} {e : Env} {s : State} {m : MethodId} {below : List Frame} {meth : Method} {c : Code} (l : Launch) {b L : Nat} {xs : Nat → Int32} {dC : Nat → ClassId} {dI : Nat → Nat → Nat} {cI cZ : ClassId} {tL tM tN : Nat} {adK adV : Nat → Nat} {ad : Nat → Nat}
    (hL : L ≤ 320) (C0 : lw_At p s m meth c b L xs) (hK : va_K (dC, dI) vwCl [(cI, .int), (cZ, .boolean)] s) (hN : NW s) (hE : EV tL tM tN adK adV (fun q : Nat => s.heap.size ≤ q) s s.heap) (hop : OpS_chance Rel)
    {x3 : Int32} (h0 : vp_in (x3 + 1) L) (h1 : vp_in (x3 + 2) L) (h2 : vp_in (x3 + 3) L) (h3 : vp_in (x3 + 4) L) (kont : ∀ (sc : Nat → Int32) (ar : Nat → Nat → Int32) (lg : Nat → Int64) (H : Heap) (locs : List Loc), Rel sc ar lg → va_P (dC, dI) vwCl (LW cI cZ ad sc ar lg) H → va_D (fun q : Nat => s.heap.size ≤ q) (LW cI cZ ad sc ar lg) → va_S (fun q : Nat => s.heap.size ≤ q) s.heap H locs → ∀ ls : Array Slot, lv_has ls 4 [(0, .ref b), (1, .ref (ad 0)), (2, .ref (ad 52)), (3, .int x3)] → W p l e room_1 s m #[Value.ref b] below meth c H locs 65 2010 (lw_Z below #[Value.ref b] s) (F0 m 951 ls []))
    (sc : Nat → Int32) (ar : Nat → Nat → Int32) (lg : Nat → Int64) (H : Heap) (locs : List Loc) (hR : Rel sc ar lg) (hP : va_P (dC, dI) vwCl (LW cI cZ ad sc ar lg) H) (hD : va_D (fun q : Nat => s.heap.size ≤ q) (LW cI cZ ad sc ar lg)) (hS : va_S (fun q : Nat => s.heap.size ≤ q) s.heap H locs) (ls : Array Slot) (hl : lv_has ls 4 [(0, .ref b), (1, .ref (ad 0)), (2, .ref (ad 52)), (3, .int x3)]) : W p l e room_1 s m #[Value.ref b] below meth c H locs 65 2010 (lw_Z below #[Value.ref b] s) (F0 m 528 ls []) := by
  obtain ⟨hx, hb, hr, hml, hown, hts0, hX, hbl, hlocks, hgv⟩ := id C0
  have hts := fun w h => hts0 w (wsL_law_in w h)
  have hA : ∀ q : Nat, s.heap.size ≤ q → (fun q : Nat => s.heap.size ≤ q) q := fun _ h => h
  have hbA : ¬ (fun q : Nat => s.heap.size ≤ q) b := Nat.not_le.mpr hbl
  obtain ⟨q, q', hq, hq', heq, hR'⟩ := hop sc ar lg hR (xs (x3 + 1).toNatClampNeg) (xs (x3 + 2).toNatClampNeg) (xs (x3 + 3).toNatClampNeg)
  refine lv_aload_n hx hb dL_law_528 rfl (lv_at hl 1 rfl) ?_
  refine lv_aload_n hx hb dL_law_529 rfl (lv_at hl 0 rfl) ?_
  refine lv_iload_n hx hb dL_law_530 rfl (lv_at hl 3 rfl) ?_
  refine lv_iconst (v := 1) hx hb dL_law_531 (by decide) ?_
  refine lv_iadd hx hb dL_law_532 ?_
  refine va_sld hx hb hX hbl hbA hS h0 dL_law_533 ?_
  refine lv_aload_n hx hb dL_law_534 rfl (lv_at hl 0 rfl) ?_
  refine lv_iload_n hx hb dL_law_535 rfl (lv_at hl 3 rfl) ?_
  refine lv_iconst (v := 2) hx hb dL_law_536 (by decide) ?_
  refine lv_iadd hx hb dL_law_537 ?_
  refine va_sld hx hb hX hbl hbA hS h1 dL_law_538 ?_
  refine lv_aload_n hx hb dL_law_539 rfl (lv_at hl 0 rfl) ?_
  refine lv_iload_n hx hb dL_law_540 rfl (lv_at hl 3 rfl) ?_
  refine lv_iconst (v := 3) hx hb dL_law_541 (by decide) ?_
  refine lv_iadd hx hb dL_law_542 ?_
  refine va_sld hx hb hX hbl hbA hS h2 dL_law_543 ?_
  have hPc : va_P (dC, dI) vwCl [(ad 0, .inr (5, [.ref (ad 41), .ref (ad 38), .ref (ad 43), .ref (ad 1), .ref (ad 28), .ref (ad 19), .ref (ad 10), .ref (ad 40), .ref (ad 37), .int (sc 0), .long (lg 0)])), (ad 28, .inr (0, [.ref (ad 33), .ref (ad 29), .ref (ad 31), .ref (ad 35)])), (ad 33, .inr (2, [.int (sc 29), .ref (ad 34), .int (sc 30)])), (ad 34, .inl (cI, 48, .inl (ar 14))), (ad 43, .inr (4, [.ref (ad 46), .ref (ad 50), .ref (ad 48), .ref (ad 44)])), (ad 44, .inr (2, [.int (sc 38), .ref (ad 45), .int (sc 39)])), (ad 45, .inl (cI, 48, .inl (ar 20)))] H := hP.sub [0, 28, 33, 34, 43, 44, 45] rfl
  have hDc : va_D (fun q : Nat => s.heap.size ≤ q) [(ad 0, .inr (5, [.ref (ad 41), .ref (ad 38), .ref (ad 43), .ref (ad 1), .ref (ad 28), .ref (ad 19), .ref (ad 10), .ref (ad 40), .ref (ad 37), .int (sc 0), .long (lg 0)])), (ad 28, .inr (0, [.ref (ad 33), .ref (ad 29), .ref (ad 31), .ref (ad 35)])), (ad 33, .inr (2, [.int (sc 29), .ref (ad 34), .int (sc 30)])), (ad 34, .inl (cI, 48, .inl (ar 14))), (ad 43, .inr (4, [.ref (ad 46), .ref (ad 50), .ref (ad 48), .ref (ad 44)])), (ad 44, .inr (2, [.int (sc 38), .ref (ad 45), .int (sc 39)])), (ad 45, .inl (cI, 48, .inl (ar 20)))] := hD.sub [0, 28, 33, 34, 43, 44, 45] (by decide) rfl
  have hFc := va_free (wc := [(ad 0, .inr (5, [.ref (ad 41), .ref (ad 38), .ref (ad 43), .ref (ad 1), .ref (ad 28), .ref (ad 19), .ref (ad 10), .ref (ad 40), .ref (ad 37), .int (sc 0), .long (lg 0)])), (ad 28, .inr (0, [.ref (ad 33), .ref (ad 29), .ref (ad 31), .ref (ad 35)])), (ad 33, .inr (2, [.int (sc 29), .ref (ad 34), .int (sc 30)])), (ad 34, .inl (cI, 48, .inl (ar 14))), (ad 43, .inr (4, [.ref (ad 46), .ref (ad 50), .ref (ad 48), .ref (ad 44)])), (ad 44, .inr (2, [.int (sc 38), .ref (ad 45), .int (sc 39)])), (ad 45, .inl (cI, 48, .inl (ar 20)))]) hD hS hA [0, 28, 33, 34, 43, 44, 45] rfl
  refine va_calli (va_runV (As := [.int (xs (x3 + 1).toNatClampNeg), .int (xs (x3 + 2).toNatClampNeg), .int (xs (x3 + 3).toNatClampNeg)]) (rest := []) ⟨hx, hb, hml, hown, hts⟩ (c_X5_chance l dC dI cI cZ H.size (ad 1) (ad 10) (ad 19) (ad 28) (ad 29) (ad 31) (ad 33) (ad 34) (ad 35) (ad 37) (ad 38) (ad 40) (ad 41) (ad 0) (ad 43) (ad 44) (ad 45) (ad 46) (ad 48) (ad 50) (sc 0) (lg 0) (sc 29) (sc 30) (ar 14) (sc 38) (sc 39) (ar 20) (xs (x3 + 1).toNatClampNeg) (xs (x3 + 2).toNatClampNeg) (xs (x3 + 3).toNatClampNeg) q hq) (cwV 3 hts gL_law_X5_chance rfl rfl rfl (by decide +kernel) ⟨Nat.le_of_ble_eq_true rfl, Nat.le_of_ble_eq_true rfl⟩) ⟨fun a U g mk q9 => ⟨q9.1, PC.mv q9.2⟩, va_recv hK hP (ci := 5) (q0 := 0) rfl rfl, fun U hU hW => ⟨rfl, PC.of hU hW hPc hK hDc hN⟩⟩ rfl rfl hl.1 rfl (lv_room (Nat.le_of_ble_eq_true rfl)) dL_law_544 ⟨Nat.le_of_ble_eq_true rfl, Nat.le_of_ble_eq_true rfl⟩) hS (fun q9 _ h => hFc q9 h) hFc (fun r_544 u t H1 locs ht hvm hw hB hz1 hk1 hS => ?_)
  obtain ⟨hP1, hD1⟩ := hB
  try dsimp only at hw
  rw [hw]
  rw [ht] at hP1
  have hP : va_P (dC, dI) vwCl (LW cI cZ ad sc ar lg) H1 := join_ro hP hD [0, 28, 33, 34, 43, 44, 45] rfl hk1 hP1
  clear hPc hDc hFc hk1 hz1 hP1 hD1 ht hvm
  generalize H1 = H at hP hS ⊢
  refine lv_aload_n hx hb dL_law_547 rfl (lv_at hl 2 rfl) ?_
  refine lv_aload_n hx hb dL_law_548 rfl (lv_at hl 0 rfl) ?_
  refine lv_iload_n hx hb dL_law_549 rfl (lv_at hl 3 rfl) ?_
  refine lv_iconst (v := 1) hx hb dL_law_550 (by decide) ?_
  refine lv_iadd hx hb dL_law_551 ?_
  refine va_sld hx hb hX hbl hbA hS h0 dL_law_552 ?_
  refine lv_aload_n hx hb dL_law_553 rfl (lv_at hl 0 rfl) ?_
  refine lv_iload_n hx hb dL_law_554 rfl (lv_at hl 3 rfl) ?_
  refine lv_iconst (v := 2) hx hb dL_law_555 (by decide) ?_
  refine lv_iadd hx hb dL_law_556 ?_
  refine va_sld hx hb hX hbl hbA hS h1 dL_law_557 ?_
  refine lv_aload_n hx hb dL_law_558 rfl (lv_at hl 0 rfl) ?_
  refine lv_iload_n hx hb dL_law_559 rfl (lv_at hl 3 rfl) ?_
  refine lv_iconst (v := 3) hx hb dL_law_560 (by decide) ?_
  refine lv_iadd hx hb dL_law_561 ?_
  refine va_sld hx hb hX hbl hbA hS h2 dL_law_562 ?_
  have hPc : va_P (dC, dI) vwCl [(ad 52, .inr (6, [.int (sc 46), .int (sc 47), .ref (ad 62), .int (sc 48), .ref (ad 56), .int (sc 49), .ref (ad 53), .ref (ad 63), .ref (ad 54), .ref (ad 55), .long (lg 1), .ref (ad 64), .int (sc 50), .int (sc 51), .int (sc 52), .int (sc 53), .int (sc 54), .long (lg 2), .int (sc 55), .int (sc 56), .ref (ad 59), .int (sc 57), .ref (ad 61), .int (sc 58), .ref (ad 60), .int (sc 59), .ref (ad 58), .ref (ad 57), .int (sc 60), .int (sc 61)])), (ad 53, .inl (cI, 10, .inl (ar 24))), (ad 57, .inl (cI, 8, .inl (ar 28))), (ad 63, .inl (cI, 104, .inl (ar 34)))] H := hP.sub [52, 53, 57, 63] rfl
  have hDc : va_D (fun q : Nat => s.heap.size ≤ q) [(ad 52, .inr (6, [.int (sc 46), .int (sc 47), .ref (ad 62), .int (sc 48), .ref (ad 56), .int (sc 49), .ref (ad 53), .ref (ad 63), .ref (ad 54), .ref (ad 55), .long (lg 1), .ref (ad 64), .int (sc 50), .int (sc 51), .int (sc 52), .int (sc 53), .int (sc 54), .long (lg 2), .int (sc 55), .int (sc 56), .ref (ad 59), .int (sc 57), .ref (ad 61), .int (sc 58), .ref (ad 60), .int (sc 59), .ref (ad 58), .ref (ad 57), .int (sc 60), .int (sc 61)])), (ad 53, .inl (cI, 10, .inl (ar 24))), (ad 57, .inl (cI, 8, .inl (ar 28))), (ad 63, .inl (cI, 104, .inl (ar 34)))] := hD.sub [52, 53, 57, 63] (by decide) rfl
  have hFc := va_free (wc := [(ad 52, .inr (6, [.int (sc 46), .int (sc 47), .ref (ad 62), .int (sc 48), .ref (ad 56), .int (sc 49), .ref (ad 53), .ref (ad 63), .ref (ad 54), .ref (ad 55), .long (lg 1), .ref (ad 64), .int (sc 50), .int (sc 51), .int (sc 52), .int (sc 53), .int (sc 54), .long (lg 2), .int (sc 55), .int (sc 56), .ref (ad 59), .int (sc 57), .ref (ad 61), .int (sc 58), .ref (ad 60), .int (sc 59), .ref (ad 58), .ref (ad 57), .int (sc 60), .int (sc 61)])), (ad 53, .inl (cI, 10, .inl (ar 24))), (ad 57, .inl (cI, 8, .inl (ar 28))), (ad 63, .inl (cI, 104, .inl (ar 34)))]) hD hS hA [52, 53, 57, 63] rfl
  refine va_calli (va_runV (As := [.int (xs (x3 + 1).toNatClampNeg), .int (xs (x3 + 2).toNatClampNeg), .int (xs (x3 + 3).toNatClampNeg)]) (rest := [.int q]) ⟨hx, hb, hml, hown, hts⟩ (c_X6_chance l dC dI cI cZ H.size (ad 53) (ad 54) (ad 55) (ad 56) (ad 57) (ad 58) (ad 59) (ad 60) (ad 61) (ad 62) (ad 63) (ad 64) (ad 52) (sc 46) (sc 47) (sc 48) (sc 49) (lg 1) (sc 50) (sc 51) (sc 52) (sc 53) (sc 54) (lg 2) (sc 55) (sc 56) (sc 57) (sc 58) (sc 59) (sc 60) (sc 61) (ar 24) (ar 28) (ar 34) (xs (x3 + 1).toNatClampNeg) (xs (x3 + 2).toNatClampNeg) (xs (x3 + 3).toNatClampNeg) q' hq') (cwV 3 hts gL_law_X6_chance rfl rfl rfl (by decide +kernel) ⟨Nat.le_of_ble_eq_true rfl, Nat.le_of_ble_eq_true rfl⟩) ⟨fun a U g mk q9 => ⟨q9.1, PC.mv q9.2⟩, va_recv hK hP (ci := 6) (q0 := 52) rfl rfl, fun U hU hW => ⟨rfl, PC.of hU hW hPc hK hDc hN⟩⟩ rfl rfl hl.1 rfl (lv_room (Nat.le_of_ble_eq_true rfl)) dL_law_563 ⟨Nat.le_of_ble_eq_true rfl, Nat.le_of_ble_eq_true rfl⟩) hS (fun q9 _ h => hFc q9 h) hFc (fun r_563 u t H1 locs ht hvm hw hB hz1 hk1 hS => ?_)
  obtain ⟨hP1, hD1⟩ := hB
  try dsimp only at hw
  rw [hw]
  rw [ht] at hP1
  have h9 := va_join (wr := [0, 1, 2, 3, 4, 5, 6, 7, 8, 9, 10, 11, 12, 13, 14, 15, 16, 17, 18, 19, 20, 21, 22, 23, 24, 25, 26, 27, 28, 29, 30, 31, 32, 33, 34, 35, 36, 37, 38, 39, 40, 41, 42, 43, 44, 45, 46, 47, 48, 49, 50, 51, 54, 55, 56, 58, 59, 60, 61, 62, 64].filterMap (fun i => (LW cI cZ ad sc ar lg)[i]?)) (w1 := [(ad 52, .inr (6, [.int (sc 46), .int (sc 47), .ref (ad 62), .int (sc 48), .ref (ad 56), .int (sc 49), .ref (ad 53), .ref (ad 63), .ref (ad 54), .ref (ad 55), .long (lg 1), .ref (ad 64), .int (sc 50), .int (sc 51), .int (sc 52), .int (sc 53), .int (sc 54), .long (lg 2), .int (sc 55), .int (sc 56), .ref (ad 59), .int (sc 57), .ref (ad 61), .int (sc 58), .ref (ad 60), .int (sc 59), .ref (ad 58), .ref (ad 57), .int (sc 60), .int (sc 61)])), (ad 53, .inl (cI, 10, .inl (ar 24))), (ad 57, .inl (cI, 8, .inl q'.2)), (ad 63, .inl (cI, 104, .inl (ar 34)))]) hP hD [52, 53, 57, 63] [0, 1, 2, 3, 4, 5, 6, 7, 8, 9, 10, 11, 12, 13, 14, 15, 16, 17, 18, 19, 20, 21, 22, 23, 24, 25, 26, 27, 28, 29, 30, 31, 32, 33, 34, 35, 36, 37, 38, 39, 40, 41, 42, 43, 44, 45, 46, 47, 48, 49, 50, 51, 54, 55, 56, 58, 59, 60, 61, 62, 64] rfl rfl (by decide) (by decide) hk1 hFc hP1 hD1
  have hP : va_P (dC, dI) vwCl (LW cI cZ ad sc (uv ar 28 q'.2) lg) H1 := h9.1.sub [0, 1, 2, 3, 4, 5, 6, 7, 8, 9, 10, 11, 12, 13, 14, 15, 16, 17, 18, 19, 20, 21, 22, 23, 24, 25, 26, 27, 28, 29, 30, 31, 32, 33, 34, 35, 36, 37, 38, 39, 40, 41, 42, 43, 44, 45, 46, 47, 48, 49, 50, 51, 61, 62, 52, 53, 54, 63, 55, 56, 57, 58, 59, 64, 60] rfl
  have hD : va_D (fun q : Nat => s.heap.size ≤ q) (LW cI cZ ad sc (uv ar 28 q'.2) lg) := h9.2.sub [0, 1, 2, 3, 4, 5, 6, 7, 8, 9, 10, 11, 12, 13, 14, 15, 16, 17, 18, 19, 20, 21, 22, 23, 24, 25, 26, 27, 28, 29, 30, 31, 32, 33, 34, 35, 36, 37, 38, 39, 40, 41, 42, 43, 44, 45, 46, 47, 48, 49, 50, 51, 61, 62, 52, 53, 54, 63, 55, 56, 57, 58, 59, 64, 60] (by decide) rfl
  clear h9
  clear hPc hDc hFc hk1 hz1 hP1 hD1 ht hvm
  generalize H1 = H at hP hS ⊢
  refine lv_icmp_eq (tgt := 951) hx hb dL_law_566 (by decide) (fun _ => ?_) (fun c9 => absurd heq c9)
  exact kont _ _ _ H locs hR' hP hD hS ls hl
set_option maxHeartbeats 8000000 in
set_option maxRecDepth 100000 in
theorem law_apart {Rel : RelT} {p : Program} {e : Env} {s : State} {m : MethodId} {below : List Frame} {meth : Method} {c : Code} (l : Launch) {b L : Nat} {xs : Nat → Int32} {dC : Nat → ClassId} {dI : Nat → Nat → Nat} {cI cZ : ClassId} {tL tM tN : Nat} {adK adV : Nat → Nat} {ad : Nat → Nat}
    (hL : L ≤ 320) (C0 : lw_At p s m meth c b L xs) (hK : va_K (dC, dI) vwCl [(cI, .int), (cZ, .boolean)] s) (hN : NW s) (hE : EV tL tM tN adK adV (fun q : Nat => s.heap.size ≤ q) s s.heap) (hop : OpS_apart Rel)
    {x3 : Int32} (h0 : vp_in (x3 + 1) L) (h1 : vp_in (x3 + 2) L) (h2 : vp_in (x3 + 3) L) (h3 : vp_in (x3 + 4) L) (kont : ∀ (sc : Nat → Int32) (ar : Nat → Nat → Int32) (lg : Nat → Int64) (H : Heap) (locs : List Loc), Rel sc ar lg → va_P (dC, dI) vwCl (LW cI cZ ad sc ar lg) H → va_D (fun q : Nat => s.heap.size ≤ q) (LW cI cZ ad sc ar lg) → va_S (fun q : Nat => s.heap.size ≤ q) s.heap H locs → ∀ ls : Array Slot, lv_has ls 4 [(0, .ref b), (1, .ref (ad 0)), (2, .ref (ad 52)), (3, .int x3)] → W p l e room_1 s m #[Value.ref b] below meth c H locs 65 2010 (lw_Z below #[Value.ref b] s) (F0 m 951 ls []))
    (sc : Nat → Int32) (ar : Nat → Nat → Int32) (lg : Nat → Int64) (H : Heap) (locs : List Loc) (hR : Rel sc ar lg) (hP : va_P (dC, dI) vwCl (LW cI cZ ad sc ar lg) H) (hD : va_D (fun q : Nat => s.heap.size ≤ q) (LW cI cZ ad sc ar lg)) (hS : va_S (fun q : Nat => s.heap.size ≤ q) s.heap H locs) (ls : Array Slot) (hl : lv_has ls 4 [(0, .ref b), (1, .ref (ad 0)), (2, .ref (ad 52)), (3, .int x3)]) : W p l e room_1 s m #[Value.ref b] below meth c H locs 65 2010 (lw_Z below #[Value.ref b] s) (F0 m 571 ls []) := by
  obtain ⟨hx, hb, hr, hml, hown, hts0, hX, hbl, hlocks, hgv⟩ := id C0
  have hts := fun w h => hts0 w (wsL_law_in w h)
  have hA : ∀ q : Nat, s.heap.size ≤ q → (fun q : Nat => s.heap.size ≤ q) q := fun _ h => h
  have hbA : ¬ (fun q : Nat => s.heap.size ≤ q) b := Nat.not_le.mpr hbl
  obtain ⟨q, q', hq, hq', heq, hR'⟩ := hop sc ar lg hR (xs (x3 + 1).toNatClampNeg) (xs (x3 + 2).toNatClampNeg) (xs (x3 + 3).toNatClampNeg)
  refine lv_aload_n hx hb dL_law_571 rfl (lv_at hl 1 rfl) ?_
  refine lv_aload_n hx hb dL_law_572 rfl (lv_at hl 0 rfl) ?_
  refine lv_iload_n hx hb dL_law_573 rfl (lv_at hl 3 rfl) ?_
  refine lv_iconst (v := 1) hx hb dL_law_574 (by decide) ?_
  refine lv_iadd hx hb dL_law_575 ?_
  refine va_sld hx hb hX hbl hbA hS h0 dL_law_576 ?_
  refine lv_aload_n hx hb dL_law_577 rfl (lv_at hl 0 rfl) ?_
  refine lv_iload_n hx hb dL_law_578 rfl (lv_at hl 3 rfl) ?_
  refine lv_iconst (v := 2) hx hb dL_law_579 (by decide) ?_
  refine lv_iadd hx hb dL_law_580 ?_
  refine va_sld hx hb hX hbl hbA hS h1 dL_law_581 ?_
  refine lv_aload_n hx hb dL_law_582 rfl (lv_at hl 0 rfl) ?_
  refine lv_iload_n hx hb dL_law_583 rfl (lv_at hl 3 rfl) ?_
  refine lv_iconst (v := 3) hx hb dL_law_584 (by decide) ?_
  refine lv_iadd hx hb dL_law_585 ?_
  refine va_sld hx hb hX hbl hbA hS h2 dL_law_586 ?_
  have hPc : va_P (dC, dI) vwCl [(ad 0, .inr (5, [.ref (ad 41), .ref (ad 38), .ref (ad 43), .ref (ad 1), .ref (ad 28), .ref (ad 19), .ref (ad 10), .ref (ad 40), .ref (ad 37), .int (sc 0), .long (lg 0)])), (ad 28, .inr (0, [.ref (ad 33), .ref (ad 29), .ref (ad 31), .ref (ad 35)])), (ad 33, .inr (2, [.int (sc 29), .ref (ad 34), .int (sc 30)])), (ad 34, .inl (cI, 48, .inl (ar 14))), (ad 37, .inl (cI, 5, .inl (ar 16)))] H := hP.sub [0, 28, 33, 34, 37] rfl
  have hDc : va_D (fun q : Nat => s.heap.size ≤ q) [(ad 0, .inr (5, [.ref (ad 41), .ref (ad 38), .ref (ad 43), .ref (ad 1), .ref (ad 28), .ref (ad 19), .ref (ad 10), .ref (ad 40), .ref (ad 37), .int (sc 0), .long (lg 0)])), (ad 28, .inr (0, [.ref (ad 33), .ref (ad 29), .ref (ad 31), .ref (ad 35)])), (ad 33, .inr (2, [.int (sc 29), .ref (ad 34), .int (sc 30)])), (ad 34, .inl (cI, 48, .inl (ar 14))), (ad 37, .inl (cI, 5, .inl (ar 16)))] := hD.sub [0, 28, 33, 34, 37] (by decide) rfl
  have hFc := va_free (wc := [(ad 0, .inr (5, [.ref (ad 41), .ref (ad 38), .ref (ad 43), .ref (ad 1), .ref (ad 28), .ref (ad 19), .ref (ad 10), .ref (ad 40), .ref (ad 37), .int (sc 0), .long (lg 0)])), (ad 28, .inr (0, [.ref (ad 33), .ref (ad 29), .ref (ad 31), .ref (ad 35)])), (ad 33, .inr (2, [.int (sc 29), .ref (ad 34), .int (sc 30)])), (ad 34, .inl (cI, 48, .inl (ar 14))), (ad 37, .inl (cI, 5, .inl (ar 16)))]) hD hS hA [0, 28, 33, 34, 37] rfl
  refine va_calli (va_runV (As := [.int (xs (x3 + 1).toNatClampNeg), .int (xs (x3 + 2).toNatClampNeg), .int (xs (x3 + 3).toNatClampNeg)]) (rest := []) ⟨hx, hb, hml, hown, hts⟩ (c_X5_apart l dC dI cI cZ H.size (ad 1) (ad 10) (ad 19) (ad 28) (ad 29) (ad 31) (ad 33) (ad 34) (ad 35) (ad 37) (ad 38) (ad 40) (ad 41) (ad 0) (ad 43) (sc 0) (lg 0) (sc 29) (sc 30) (ar 14) (ar 16) (xs (x3 + 1).toNatClampNeg) (xs (x3 + 2).toNatClampNeg) (xs (x3 + 3).toNatClampNeg) q hq) (cwV 3 hts gL_law_X5_apart rfl rfl rfl (by decide +kernel) ⟨Nat.le_of_ble_eq_true rfl, Nat.le_of_ble_eq_true rfl⟩) ⟨fun a U g mk q9 => ⟨q9.1, PC.mv q9.2⟩, va_recv hK hP (ci := 5) (q0 := 0) rfl rfl, fun U hU hW => ⟨rfl, PC.of hU hW hPc hK hDc hN⟩⟩ rfl rfl hl.1 rfl (lv_room (Nat.le_of_ble_eq_true rfl)) dL_law_587 ⟨Nat.le_of_ble_eq_true rfl, Nat.le_of_ble_eq_true rfl⟩) hS (fun q9 _ h => hFc q9 h) hFc (fun r_587 u t H1 locs ht hvm hw hB hz1 hk1 hS => ?_)
  obtain ⟨hP1, hD1⟩ := hB
  try dsimp only at hw
  rw [hw]
  rw [ht] at hP1
  have h9 := va_join (wr := [1, 2, 3, 4, 5, 6, 7, 8, 9, 10, 11, 12, 13, 14, 15, 16, 17, 18, 19, 20, 21, 22, 23, 24, 25, 26, 27, 29, 30, 31, 32, 35, 36, 38, 39, 40, 41, 42, 43, 44, 45, 46, 47, 48, 49, 50, 51, 52, 53, 54, 55, 56, 57, 58, 59, 60, 61, 62, 63, 64].filterMap (fun i => (LW cI cZ ad sc ar lg)[i]?)) (w1 := [(ad 0, .inr (5, [.ref (ad 41), .ref (ad 38), .ref (ad 43), .ref (ad 1), .ref (ad 28), .ref (ad 19), .ref (ad 10), .ref (ad 40), .ref (ad 37), .int (sc 0), .long (lg 0)])), (ad 28, .inr (0, [.ref (ad 33), .ref (ad 29), .ref (ad 31), .ref (ad 35)])), (ad 33, .inr (2, [.int (sc 29), .ref (ad 34), .int (sc 30)])), (ad 34, .inl (cI, 48, .inl (ar 14))), (ad 37, .inl (cI, 5, .inl q.2))]) hP hD [0, 28, 33, 34, 37] [1, 2, 3, 4, 5, 6, 7, 8, 9, 10, 11, 12, 13, 14, 15, 16, 17, 18, 19, 20, 21, 22, 23, 24, 25, 26, 27, 29, 30, 31, 32, 35, 36, 38, 39, 40, 41, 42, 43, 44, 45, 46, 47, 48, 49, 50, 51, 52, 53, 54, 55, 56, 57, 58, 59, 60, 61, 62, 63, 64] rfl rfl (by decide) (by decide) hk1 hFc hP1 hD1
  have hP : va_P (dC, dI) vwCl (LW cI cZ ad sc (uv ar 16 q.2) lg) H1 := h9.1.sub [60, 0, 1, 2, 3, 4, 5, 6, 7, 8, 9, 10, 11, 12, 13, 14, 15, 16, 17, 18, 19, 20, 21, 22, 23, 24, 25, 26, 61, 27, 28, 29, 30, 62, 63, 31, 32, 64, 33, 34, 35, 36, 37, 38, 39, 40, 41, 42, 43, 44, 45, 46, 47, 48, 49, 50, 51, 52, 53, 54, 55, 56, 57, 58, 59] rfl
  have hD : va_D (fun q : Nat => s.heap.size ≤ q) (LW cI cZ ad sc (uv ar 16 q.2) lg) := h9.2.sub [60, 0, 1, 2, 3, 4, 5, 6, 7, 8, 9, 10, 11, 12, 13, 14, 15, 16, 17, 18, 19, 20, 21, 22, 23, 24, 25, 26, 61, 27, 28, 29, 30, 62, 63, 31, 32, 64, 33, 34, 35, 36, 37, 38, 39, 40, 41, 42, 43, 44, 45, 46, 47, 48, 49, 50, 51, 52, 53, 54, 55, 56, 57, 58, 59] (by decide) rfl
  clear h9
  clear hPc hDc hFc hk1 hz1 hP1 hD1 ht hvm
  generalize H1 = H at hP hS ⊢
  refine lv_aload_n hx hb dL_law_590 rfl (lv_at hl 2 rfl) ?_
  refine lv_aload_n hx hb dL_law_591 rfl (lv_at hl 0 rfl) ?_
  refine lv_iload_n hx hb dL_law_592 rfl (lv_at hl 3 rfl) ?_
  refine lv_iconst (v := 1) hx hb dL_law_593 (by decide) ?_
  refine lv_iadd hx hb dL_law_594 ?_
  refine va_sld hx hb hX hbl hbA hS h0 dL_law_595 ?_
  refine lv_aload_n hx hb dL_law_596 rfl (lv_at hl 0 rfl) ?_
  refine lv_iload_n hx hb dL_law_597 rfl (lv_at hl 3 rfl) ?_
  refine lv_iconst (v := 2) hx hb dL_law_598 (by decide) ?_
  refine lv_iadd hx hb dL_law_599 ?_
  refine va_sld hx hb hX hbl hbA hS h1 dL_law_600 ?_
  refine lv_aload_n hx hb dL_law_601 rfl (lv_at hl 0 rfl) ?_
  refine lv_iload_n hx hb dL_law_602 rfl (lv_at hl 3 rfl) ?_
  refine lv_iconst (v := 3) hx hb dL_law_603 (by decide) ?_
  refine lv_iadd hx hb dL_law_604 ?_
  refine va_sld hx hb hX hbl hbA hS h2 dL_law_605 ?_
  have hPc : va_P (dC, dI) vwCl [(ad 52, .inr (6, [.int (sc 46), .int (sc 47), .ref (ad 62), .int (sc 48), .ref (ad 56), .int (sc 49), .ref (ad 53), .ref (ad 63), .ref (ad 54), .ref (ad 55), .long (lg 1), .ref (ad 64), .int (sc 50), .int (sc 51), .int (sc 52), .int (sc 53), .int (sc 54), .long (lg 2), .int (sc 55), .int (sc 56), .ref (ad 59), .int (sc 57), .ref (ad 61), .int (sc 58), .ref (ad 60), .int (sc 59), .ref (ad 58), .ref (ad 57), .int (sc 60), .int (sc 61)])), (ad 63, .inl (cI, 104, .inl (ar 34)))] H := hP.sub [52, 63] rfl
  have hDc : va_D (fun q : Nat => s.heap.size ≤ q) [(ad 52, .inr (6, [.int (sc 46), .int (sc 47), .ref (ad 62), .int (sc 48), .ref (ad 56), .int (sc 49), .ref (ad 53), .ref (ad 63), .ref (ad 54), .ref (ad 55), .long (lg 1), .ref (ad 64), .int (sc 50), .int (sc 51), .int (sc 52), .int (sc 53), .int (sc 54), .long (lg 2), .int (sc 55), .int (sc 56), .ref (ad 59), .int (sc 57), .ref (ad 61), .int (sc 58), .ref (ad 60), .int (sc 59), .ref (ad 58), .ref (ad 57), .int (sc 60), .int (sc 61)])), (ad 63, .inl (cI, 104, .inl (ar 34)))] := hD.sub [52, 63] (by decide) rfl
  have hFc := va_free (wc := [(ad 52, .inr (6, [.int (sc 46), .int (sc 47), .ref (ad 62), .int (sc 48), .ref (ad 56), .int (sc 49), .ref (ad 53), .ref (ad 63), .ref (ad 54), .ref (ad 55), .long (lg 1), .ref (ad 64), .int (sc 50), .int (sc 51), .int (sc 52), .int (sc 53), .int (sc 54), .long (lg 2), .int (sc 55), .int (sc 56), .ref (ad 59), .int (sc 57), .ref (ad 61), .int (sc 58), .ref (ad 60), .int (sc 59), .ref (ad 58), .ref (ad 57), .int (sc 60), .int (sc 61)])), (ad 63, .inl (cI, 104, .inl (ar 34)))]) hD hS hA [52, 63] rfl
  refine va_calli (va_runV (As := [.int (xs (x3 + 1).toNatClampNeg), .int (xs (x3 + 2).toNatClampNeg), .int (xs (x3 + 3).toNatClampNeg)]) (rest := [.int q.1]) ⟨hx, hb, hml, hown, hts⟩ (c_X6_apart l dC dI cI cZ H.size (ad 53) (ad 54) (ad 55) (ad 56) (ad 57) (ad 58) (ad 59) (ad 60) (ad 61) (ad 62) (ad 63) (ad 64) (ad 52) (sc 46) (sc 47) (sc 48) (sc 49) (lg 1) (sc 50) (sc 51) (sc 52) (sc 53) (sc 54) (lg 2) (sc 55) (sc 56) (sc 57) (sc 58) (sc 59) (sc 60) (sc 61) (ar 34) (xs (x3 + 1).toNatClampNeg) (xs (x3 + 2).toNatClampNeg) (xs (x3 + 3).toNatClampNeg) q' hq') (cwV 3 hts gL_law_X6_apart rfl rfl rfl (by decide +kernel) ⟨Nat.le_of_ble_eq_true rfl, Nat.le_of_ble_eq_true rfl⟩) ⟨fun a U g mk q9 => ⟨q9.1, PC.mv q9.2⟩, va_recv hK hP (ci := 6) (q0 := 52) rfl rfl, fun U hU hW => ⟨rfl, PC.of hU hW hPc hK hDc hN⟩⟩ rfl rfl hl.1 rfl (lv_room (Nat.le_of_ble_eq_true rfl)) dL_law_606 ⟨Nat.le_of_ble_eq_true rfl, Nat.le_of_ble_eq_true rfl⟩) hS (fun q9 _ h => hFc q9 h) hFc (fun r_606 u t H1 locs ht hvm hw hB hz1 hk1 hS => ?_)
  obtain ⟨hP1, hD1⟩ := hB
  try dsimp only at hw
  rw [hw]
  rw [ht] at hP1
  have hP : va_P (dC, dI) vwCl (LW cI cZ ad sc (uv ar 16 q.2) lg) H1 := join_ro hP hD [52, 63] rfl hk1 hP1
  clear hPc hDc hFc hk1 hz1 hP1 hD1 ht hvm
  generalize H1 = H at hP hS ⊢
  refine lv_icmp_eq (tgt := 951) hx hb dL_law_609 (by decide) (fun _ => ?_) (fun c9 => absurd heq c9)
  exact kont _ _ _ H locs hR' hP hD hS ls hl
