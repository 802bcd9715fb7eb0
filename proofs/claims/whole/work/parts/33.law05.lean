set_option maxHeartbeats 8000000 in
set_option maxRecDepth 100000 in
theorem law_lent {Rel : RelT} {p : Program} {e : Env} {s : State} {m : MethodId} {below : List Frame} {meth : Method} {c : Code} (l : Launch) {b L : Nat} {xs : Nat → Int32} {dC : Nat → ClassId} {dI : Nat → Nat → Nat} {cI cZ : ClassId} {tL tM tN : Nat} {adK adV : Nat → Nat} {ad : Nat → Nat}
    (hL : L ≤ 320) (C0 : lw_At p s m meth c b L xs) (hK : va_K (dC, dI) vwCl [(cI, .int), (cZ, .boolean)] s) (hN : NW s) (hE : EV tL tM tN adK adV (fun q : Nat => s.heap.size ≤ q) s s.heap) (hop : OpS_lent Rel)
    {x3 : Int32} (h0 : vp_in (x3 + 1) L) (h1 : vp_in (x3 + 2) L) (h2 : vp_in (x3 + 3) L) (h3 : vp_in (x3 + 4) L) (kont : ∀ (sc : Nat → Int32) (ar : Nat → Nat → Int32) (lg : Nat → Int64) (H : Heap) (locs : List Loc), Rel sc ar lg → va_P (dC, dI) vwCl (LW cI cZ ad sc ar lg) H → va_D (fun q : Nat => s.heap.size ≤ q) (LW cI cZ ad sc ar lg) → va_S (fun q : Nat => s.heap.size ≤ q) s.heap H locs → ∀ ls : Array Slot, lv_has ls 4 [(0, .ref b), (1, .ref (ad 0)), (2, .ref (ad 52)), (3, .int x3)] → W p l e room_1 s m #[Value.ref b] below meth c H locs 65 2010 (lw_Z below #[Value.ref b] s) (F0 m 951 ls []))
    (sc : Nat → Int32) (ar : Nat → Nat → Int32) (lg : Nat → Int64) (H : Heap) (locs : List Loc) (hR : Rel sc ar lg) (hP : va_P (dC, dI) vwCl (LW cI cZ ad sc ar lg) H) (hD : va_D (fun q : Nat => s.heap.size ≤ q) (LW cI cZ ad sc ar lg)) (hS : va_S (fun q : Nat => s.heap.size ≤ q) s.heap H locs) (ls : Array Slot) (hl : lv_has ls 4 [(0, .ref b), (1, .ref (ad 0)), (2, .ref (ad 52)), (3, .int x3)]) : W p l e room_1 s m #[Value.ref b] below meth c H locs 65 2010 (lw_Z below #[Value.ref b] s) (F0 m 416 ls []) := by
  obtain ⟨hx, hb, hr, hml, hown, hts0, hX, hbl, hlocks, hgv⟩ := id C0
  have hts := fun w h => hts0 w (wsL_law_in w h)
  have hA : ∀ q : Nat, s.heap.size ≤ q → (fun q : Nat => s.heap.size ≤ q) q := fun _ h => h
  have hbA : ¬ (fun q : Nat => s.heap.size ≤ q) b := Nat.not_le.mpr hbl
  obtain ⟨q, q', hq, hq', heq, hR'⟩ := hop sc ar lg hR (xs (x3 + 1).toNatClampNeg) (xs (x3 + 2).toNatClampNeg)
  refine lv_aload_n hx hb dL_law_416 rfl (lv_at hl 1 rfl) ?_
  refine lv_aload_n hx hb dL_law_417 rfl (lv_at hl 0 rfl) ?_
  refine lv_iload_n hx hb dL_law_418 rfl (lv_at hl 3 rfl) ?_
  refine lv_iconst (v := 1) hx hb dL_law_419 (by decide) ?_
  refine lv_iadd hx hb dL_law_420 ?_
  refine va_sld hx hb hX hbl hbA hS h0 dL_law_421 ?_
  refine lv_aload_n hx hb dL_law_422 rfl (lv_at hl 0 rfl) ?_
  refine lv_iload_n hx hb dL_law_423 rfl (lv_at hl 3 rfl) ?_
  refine lv_iconst (v := 2) hx hb dL_law_424 (by decide) ?_
  refine lv_iadd hx hb dL_law_425 ?_
  refine va_sld hx hb hX hbl hbA hS h1 dL_law_426 ?_
  have hPc : va_P (dC, dI) vwCl [(ad 0, .inr (5, [.ref (ad 41), .ref (ad 38), .ref (ad 43), .ref (ad 1), .ref (ad 28), .ref (ad 19), .ref (ad 10), .ref (ad 40), .ref (ad 37), .int (sc 0), .long (lg 0)])), (ad 28, .inr (0, [.ref (ad 33), .ref (ad 29), .ref (ad 31), .ref (ad 35)])), (ad 29, .inr (2, [.int (sc 25), .ref (ad 30), .int (sc 26)])), (ad 30, .inl (cI, 48, .inl (ar 12)))] H := hP.sub [0, 28, 29, 30] rfl
  have hDc : va_D (fun q : Nat => s.heap.size ≤ q) [(ad 0, .inr (5, [.ref (ad 41), .ref (ad 38), .ref (ad 43), .ref (ad 1), .ref (ad 28), .ref (ad 19), .ref (ad 10), .ref (ad 40), .ref (ad 37), .int (sc 0), .long (lg 0)])), (ad 28, .inr (0, [.ref (ad 33), .ref (ad 29), .ref (ad 31), .ref (ad 35)])), (ad 29, .inr (2, [.int (sc 25), .ref (ad 30), .int (sc 26)])), (ad 30, .inl (cI, 48, .inl (ar 12)))] := hD.sub [0, 28, 29, 30] (by decide) rfl
  have hFc := va_free (wc := [(ad 0, .inr (5, [.ref (ad 41), .ref (ad 38), .ref (ad 43), .ref (ad 1), .ref (ad 28), .ref (ad 19), .ref (ad 10), .ref (ad 40), .ref (ad 37), .int (sc 0), .long (lg 0)])), (ad 28, .inr (0, [.ref (ad 33), .ref (ad 29), .ref (ad 31), .ref (ad 35)])), (ad 29, .inr (2, [.int (sc 25), .ref (ad 30), .int (sc 26)])), (ad 30, .inl (cI, 48, .inl (ar 12)))]) hD hS hA [0, 28, 29, 30] rfl
  refine va_calli (va_runV (As := [.int (xs (x3 + 1).toNatClampNeg), .int (xs (x3 + 2).toNatClampNeg)]) (rest := []) ⟨hx, hb, hml, hown, hts⟩ (c_X5_lent l dC dI cI cZ H.size (ad 1) (ad 10) (ad 19) (ad 28) (ad 29) (ad 30) (ad 31) (ad 33) (ad 35) (ad 37) (ad 38) (ad 40) (ad 41) (ad 0) (ad 43) (sc 0) (lg 0) (sc 25) (sc 26) (ar 12) (xs (x3 + 1).toNatClampNeg) (xs (x3 + 2).toNatClampNeg) q hq) (cwV 2 hts gL_law_X5_lent rfl rfl rfl (by decide +kernel) ⟨Nat.le_of_ble_eq_true rfl, Nat.le_of_ble_eq_true rfl⟩) ⟨fun a U g mk q9 => ⟨q9.1, PC.mv q9.2⟩, va_recv hK hP (ci := 5) (q0 := 0) rfl rfl, fun U hU hW => ⟨rfl, PC.of hU hW hPc hK hDc hN⟩⟩ rfl rfl hl.1 rfl (lv_room (Nat.le_of_ble_eq_true rfl)) dL_law_427 ⟨Nat.le_of_ble_eq_true rfl, Nat.le_of_ble_eq_true rfl⟩) hS (fun q9 _ h => hFc q9 h) hFc (fun r_427 u t H1 locs ht hvm hw hB hz1 hk1 hS => ?_)
  obtain ⟨hP1, hD1⟩ := hB
  try dsimp only at hw
  rw [hw]
  rw [ht] at hP1
  have hP : va_P (dC, dI) vwCl (LW cI cZ ad sc ar lg) H1 := join_ro hP hD [0, 28, 29, 30] rfl hk1 hP1
  clear hPc hDc hFc hk1 hz1 hP1 hD1 ht hvm
  generalize H1 = H at hP hS ⊢
  refine lv_aload_n hx hb dL_law_430 rfl (lv_at hl 2 rfl) ?_
  refine lv_aload_n hx hb dL_law_431 rfl (lv_at hl 0 rfl) ?_
  refine lv_iload_n hx hb dL_law_432 rfl (lv_at hl 3 rfl) ?_
  refine lv_iconst (v := 1) hx hb dL_law_433 (by decide) ?_
  refine lv_iadd hx hb dL_law_434 ?_
  refine va_sld hx hb hX hbl hbA hS h0 dL_law_435 ?_
  refine lv_aload_n hx hb dL_law_436 rfl (lv_at hl 0 rfl) ?_
  refine lv_iload_n hx hb dL_law_437 rfl (lv_at hl 3 rfl) ?_
  refine lv_iconst (v := 2) hx hb dL_law_438 (by decide) ?_
  refine lv_iadd hx hb dL_law_439 ?_
  refine va_sld hx hb hX hbl hbA hS h1 dL_law_440 ?_
  have hPc : va_P (dC, dI) vwCl [(ad 52, .inr (6, [.int (sc 46), .int (sc 47), .ref (ad 62), .int (sc 48), .ref (ad 56), .int (sc 49), .ref (ad 53), .ref (ad 63), .ref (ad 54), .ref (ad 55), .long (lg 1), .ref (ad 64), .int (sc 50), .int (sc 51), .int (sc 52), .int (sc 53), .int (sc 54), .long (lg 2), .int (sc 55), .int (sc 56), .ref (ad 59), .int (sc 57), .ref (ad 61), .int (sc 58), .ref (ad 60), .int (sc 59), .ref (ad 58), .ref (ad 57), .int (sc 60), .int (sc 61)])), (ad 63, .inl (cI, 104, .inl (ar 34)))] H := hP.sub [52, 63] rfl
  have hDc : va_D (fun q : Nat => s.heap.size ≤ q) [(ad 52, .inr (6, [.int (sc 46), .int (sc 47), .ref (ad 62), .int (sc 48), .ref (ad 56), .int (sc 49), .ref (ad 53), .ref (ad 63), .ref (ad 54), .ref (ad 55), .long (lg 1), .ref (ad 64), .int (sc 50), .int (sc 51), .int (sc 52), .int (sc 53), .int (sc 54), .long (lg 2), .int (sc 55), .int (sc 56), .ref (ad 59), .int (sc 57), .ref (ad 61), .int (sc 58), .ref (ad 60), .int (sc 59), .ref (ad 58), .ref (ad 57), .int (sc 60), .int (sc 61)])), (ad 63, .inl (cI, 104, .inl (ar 34)))] := hD.sub [52, 63] (by decide) rfl
  have hFc := va_free (wc := [(ad 52, .inr (6, [.int (sc 46), .int (sc 47), .ref (ad 62), .int (sc 48), .ref (ad 56), .int (sc 49), .ref (ad 53), .ref (ad 63), .ref (ad 54), .ref (ad 55), .long (lg 1), .ref (ad 64), .int (sc 50), .int (sc 51), .int (sc 52), .int (sc 53), .int (sc 54), .long (lg 2), .int (sc 55), .int (sc 56), .ref (ad 59), .int (sc 57), .ref (ad 61), .int (sc 58), .ref (ad 60), .int (sc 59), .ref (ad 58), .ref (ad 57), .int (sc 60), .int (sc 61)])), (ad 63, .inl (cI, 104, .inl (ar 34)))]) hD hS hA [52, 63] rfl
  refine va_calli (va_runV (As := [.int (xs (x3 + 1).toNatClampNeg), .int (xs (x3 + 2).toNatClampNeg)]) (rest := [.int q]) ⟨hx, hb, hml, hown, hts⟩ (c_X6_lent l dC dI cI cZ H.size (ad 53) (ad 54) (ad 55) (ad 56) (ad 57) (ad 58) (ad 59) (ad 60) (ad 61) (ad 62) (ad 63) (ad 64) (ad 52) (sc 46) (sc 47) (sc 48) (sc 49) (lg 1) (sc 50) (sc 51) (sc 52) (sc 53) (sc 54) (lg 2) (sc 55) (sc 56) (sc 57) (sc 58) (sc 59) (sc 60) (sc 61) (ar 34) (xs (x3 + 1).toNatClampNeg) (xs (x3 + 2).toNatClampNeg) q' hq') (cwV 2 hts gL_law_X6_lent rfl rfl rfl (by decide +kernel) ⟨Nat.le_of_ble_eq_true rfl, Nat.le_of_ble_eq_true rfl⟩) ⟨fun a U g mk q9 => ⟨q9.1, PC.mv q9.2⟩, va_recv hK hP (ci := 6) (q0 := 52) rfl rfl, fun U hU hW => ⟨rfl, PC.of hU hW hPc hK hDc hN⟩⟩ rfl rfl hl.1 rfl (lv_room (Nat.le_of_ble_eq_true rfl)) dL_law_441 ⟨Nat.le_of_ble_eq_true rfl, Nat.le_of_ble_eq_true rfl⟩) hS (fun q9 _ h => hFc q9 h) hFc (fun r_441 u t H1 locs ht hvm hw hB hz1 hk1 hS => ?_)
  obtain ⟨hP1, hD1⟩ := hB
  try dsimp only at hw
  rw [hw]
  rw [ht] at hP1
  have hP : va_P (dC, dI) vwCl (LW cI cZ ad sc ar lg) H1 := join_ro hP hD [52, 63] rfl hk1 hP1
  clear hPc hDc hFc hk1 hz1 hP1 hD1 ht hvm
  generalize H1 = H at hP hS ⊢
  refine lv_icmp_eq (tgt := 951) hx hb dL_law_444 (by decide) (fun _ => ?_) (fun c9 => absurd heq c9)
  exact kont _ _ _ H locs hR' hP hD hS ls hl
set_option maxHeartbeats 8000000 in
set_option maxRecDepth 100000 in
theorem law_twice {Rel : RelT} {p : Program} {e : Env} {s : State} {m : MethodId} {below : List Frame} {meth : Method} {c : Code} (l : Launch) {b L : Nat} {xs : Nat → Int32} {dC : Nat → ClassId} {dI : Nat → Nat → Nat} {cI cZ : ClassId} {tL tM tN : Nat} {adK adV : Nat → Nat} {ad : Nat → Nat}
    (hL : L ≤ 320) (C0 : lw_At p s m meth c b L xs) (hK : va_K (dC, dI) vwCl [(cI, .int), (cZ, .boolean)] s) (hN : NW s) (hE : EV tL tM tN adK adV (fun q : Nat => s.heap.size ≤ q) s s.heap) (hop : OpS_twice Rel)
    {x3 : Int32} (h0 : vp_in (x3 + 1) L) (h1 : vp_in (x3 + 2) L) (h2 : vp_in (x3 + 3) L) (h3 : vp_in (x3 + 4) L) (kont : ∀ (sc : Nat → Int32) (ar : Nat → Nat → Int32) (lg : Nat → Int64) (H : Heap) (locs : List Loc), Rel sc ar lg → va_P (dC, dI) vwCl (LW cI cZ ad sc ar lg) H → va_D (fun q : Nat => s.heap.size ≤ q) (LW cI cZ ad sc ar lg) → va_S (fun q : Nat => s.heap.size ≤ q) s.heap H locs → ∀ ls : Array Slot, lv_has ls 4 [(0, .ref b), (1, .ref (ad 0)), (2, .ref (ad 52)), (3, .int x3)] → W p l e room_1 s m #[Value.ref b] below meth c H locs 65 2010 (lw_Z below #[Value.ref b] s) (F0 m 951 ls []))
    (sc : Nat → Int32) (ar : Nat → Nat → Int32) (lg : Nat → Int64) (H : Heap) (locs : List Loc) (hR : Rel sc ar lg) (hP : va_P (dC, dI) vwCl (LW cI cZ ad sc ar lg) H) (hD : va_D (fun q : Nat => s.heap.size ≤ q) (LW cI cZ ad sc ar lg)) (hS : va_S (fun q : Nat => s.heap.size ≤ q) s.heap H locs) (ls : Array Slot) (hl : lv_has ls 4 [(0, .ref b), (1, .ref (ad 0)), (2, .ref (ad 52)), (3, .int x3)]) : W p l e room_1 s m #[Value.ref b] below meth c H locs 65 2010 (lw_Z below #[Value.ref b] s) (F0 m 449 ls []) := by
  obtain ⟨hx, hb, hr, hml, hown, hts0, hX, hbl, hlocks, hgv⟩ := id C0
  have hts := fun w h => hts0 w (wsL_law_in w h)
  have hA : ∀ q : Nat, s.heap.size ≤ q → (fun q : Nat => s.heap.size ≤ q) q := fun _ h => h
  have hbA : ¬ (fun q : Nat => s.heap.size ≤ q) b := Nat.not_le.mpr hbl
  obtain ⟨q, q', hq, hq', heq, hR'⟩ := hop sc ar lg hR (xs (x3 + 1).toNatClampNeg)
  refine lv_aload_n hx hb dL_law_449 rfl (lv_at hl 1 rfl) ?_
  refine lv_aload_n hx hb dL_law_450 rfl (lv_at hl 0 rfl) ?_
  refine lv_iload_n hx hb dL_law_451 rfl (lv_at hl 3 rfl) ?_
  refine lv_iconst (v := 1) hx hb dL_law_452 (by decide) ?_
  refine lv_iadd hx hb dL_law_453 ?_
  refine va_sld hx hb hX hbl hbA hS h0 dL_law_454 ?_
  have hPc : va_P (dC, dI) vwCl [(ad 0, .inr (5, [.ref (ad 41), .ref (ad 38), .ref (ad 43), .ref (ad 1), .ref (ad 28), .ref (ad 19), .ref (ad 10), .ref (ad 40), .ref (ad 37), .int (sc 0), .long (lg 0)])), (ad 28, .inr (0, [.ref (ad 33), .ref (ad 29), .ref (ad 31), .ref (ad 35)])), (ad 29, .inr (2, [.int (sc 25), .ref (ad 30), .int (sc 26)])), (ad 30, .inl (cI, 48, .inl (ar 12))), (ad 33, .inr (2, [.int (sc 29), .ref (ad 34), .int (sc 30)])), (ad 34, .inl (cI, 48, .inl (ar 14))), (ad 43, .inr (4, [.ref (ad 46), .ref (ad 50), .ref (ad 48), .ref (ad 44)])), (ad 44, .inr (2, [.int (sc 38), .ref (ad 45), .int (sc 39)])), (ad 45, .inl (cI, 48, .inl (ar 20)))] H := hP.sub [0, 28, 29, 30, 33, 34, 43, 44, 45] rfl
  have hDc : va_D (fun q : Nat => s.heap.size ≤ q) [(ad 0, .inr (5, [.ref (ad 41), .ref (ad 38), .ref (ad 43), .ref (ad 1), .ref (ad 28), .ref (ad 19), .ref (ad 10), .ref (ad 40), .ref (ad 37), .int (sc 0), .long (lg 0)])), (ad 28, .inr (0, [.ref (ad 33), .ref (ad 29), .ref (ad 31), .ref (ad 35)])), (ad 29, .inr (2, [.int (sc 25), .ref (ad 30), .int (sc 26)])), (ad 30, .inl (cI, 48, .inl (ar 12))), (ad 33, .inr (2, [.int (sc 29), .ref (ad 34), .int (sc 30)])), (ad 34, .inl (cI, 48, .inl (ar 14))), (ad 43, .inr (4, [.ref (ad 46), .ref (ad 50), .ref (ad 48), .ref (ad 44)])), (ad 44, .inr (2, [.int (sc 38), .ref (ad 45), .int (sc 39)])), (ad 45, .inl (cI, 48, .inl (ar 20)))] := hD.sub [0, 28, 29, 30, 33, 34, 43, 44, 45] (by decide) rfl
  have hFc := va_free (wc := [(ad 0, .inr (5, [.ref (ad 41), .ref (ad 38), .ref (ad 43), .ref (ad 1), .ref (ad 28), .ref (ad 19), .ref (ad 10), .ref (ad 40), .ref (ad 37), .int (sc 0), .long (lg 0)])), (ad 28, .inr (0, [.ref (ad 33), .ref (ad 29), .ref (ad 31), .ref (ad 35)])), (ad 29, .inr (2, [.int (sc 25), .ref (ad 30), .int (sc 26)])), (ad 30, .inl (cI, 48, .inl (ar 12))), (ad 33, .inr (2, [.int (sc 29), .ref (ad 34), .int (sc 30)])), (ad 34, .inl (cI, 48, .inl (ar 14))), (ad 43, .inr (4, [.ref (ad 46), .ref (ad 50), .ref (ad 48), .ref (ad 44)])), (ad 44, .inr (2, [.int (sc 38), .ref (ad 45), .int (sc 39)])), (ad 45, .inl (cI, 48, .inl (ar 20)))]) hD hS hA [0, 28, 29, 30, 33, 34, 43, 44, 45] rfl
  refine va_calli (va_runV (As := [.int (xs (x3 + 1).toNatClampNeg)]) (rest := []) ⟨hx, hb, hml, hown, hts⟩ (c_X5_twice l dC dI cI cZ H.size (ad 1) (ad 10) (ad 19) (ad 28) (ad 29) (ad 30) (ad 31) (ad 33) (ad 34) (ad 35) (ad 37) (ad 38) (ad 40) (ad 41) (ad 0) (ad 43) (ad 44) (ad 45) (ad 46) (ad 48) (ad 50) (sc 0) (lg 0) (sc 25) (sc 26) (ar 12) (sc 29) (sc 30) (ar 14) (sc 38) (sc 39) (ar 20) (xs (x3 + 1).toNatClampNeg) q hq) (cwV 1 hts gL_law_X5_twice rfl rfl rfl (by decide +kernel) ⟨Nat.le_of_ble_eq_true rfl, Nat.le_of_ble_eq_true rfl⟩) ⟨fun a U g mk q9 => ⟨q9.1, PC.mv q9.2⟩, va_recv hK hP (ci := 5) (q0 := 0) rfl rfl, fun U hU hW => ⟨rfl, PC.of hU hW hPc hK hDc hN⟩⟩ rfl rfl hl.1 rfl (lv_room (Nat.le_of_ble_eq_true rfl)) dL_law_455 ⟨Nat.le_of_ble_eq_true rfl, Nat.le_of_ble_eq_true rfl⟩) hS (fun q9 _ h => hFc q9 h) hFc (fun r_455 u t H1 locs ht hvm hw hB hz1 hk1 hS => ?_)
  obtain ⟨hP1, hD1⟩ := hB
  try dsimp only at hw
  rw [hw]
  rw [ht] at hP1
  have hP : va_P (dC, dI) vwCl (LW cI cZ ad sc ar lg) H1 := join_ro hP hD [0, 28, 29, 30, 33, 34, 43, 44, 45] rfl hk1 hP1
  clear hPc hDc hFc hk1 hz1 hP1 hD1 ht hvm
  generalize H1 = H at hP hS ⊢
  refine lv_aload_n hx hb dL_law_458 rfl (lv_at hl 2 rfl) ?_
  refine lv_aload_n hx hb dL_law_459 rfl (lv_at hl 0 rfl) ?_
  refine lv_iload_n hx hb dL_law_460 rfl (lv_at hl 3 rfl) ?_
  refine lv_iconst (v := 1) hx hb dL_law_461 (by decide) ?_
  refine lv_iadd hx hb dL_law_462 ?_
  refine va_sld hx hb hX hbl hbA hS h0 dL_law_463 ?_
  have hPc : va_P (dC, dI) vwCl [(ad 52, .inr (6, [.int (sc 46), .int (sc 47), .ref (ad 62), .int (sc 48), .ref (ad 56), .int (sc 49), .ref (ad 53), .ref (ad 63), .ref (ad 54), .ref (ad 55), .long (lg 1), .ref (ad 64), .int (sc 50), .int (sc 51), .int (sc 52), .int (sc 53), .int (sc 54), .long (lg 2), .int (sc 55), .int (sc 56), .ref (ad 59), .int (sc 57), .ref (ad 61), .int (sc 58), .ref (ad 60), .int (sc 59), .ref (ad 58), .ref (ad 57), .int (sc 60), .int (sc 61)])), (ad 53, .inl (cI, 10, .inl (ar 24))), (ad 63, .inl (cI, 104, .inl (ar 34)))] H := hP.sub [52, 53, 63] rfl
  have hDc : va_D (fun q : Nat => s.heap.size ≤ q) [(ad 52, .inr (6, [.int (sc 46), .int (sc 47), .ref (ad 62), .int (sc 48), .ref (ad 56), .int (sc 49), .ref (ad 53), .ref (ad 63), .ref (ad 54), .ref (ad 55), .long (lg 1), .ref (ad 64), .int (sc 50), .int (sc 51), .int (sc 52), .int (sc 53), .int (sc 54), .long (lg 2), .int (sc 55), .int (sc 56), .ref (ad 59), .int (sc 57), .ref (ad 61), .int (sc 58), .ref (ad 60), .int (sc 59), .ref (ad 58), .ref (ad 57), .int (sc 60), .int (sc 61)])), (ad 53, .inl (cI, 10, .inl (ar 24))), (ad 63, .inl (cI, 104, .inl (ar 34)))] := hD.sub [52, 53, 63] (by decide) rfl
  have hFc := va_free (wc := [(ad 52, .inr (6, [.int (sc 46), .int (sc 47), .ref (ad 62), .int (sc 48), .ref (ad 56), .int (sc 49), .ref (ad 53), .ref (ad 63), .ref (ad 54), .ref (ad 55), .long (lg 1), .ref (ad 64), .int (sc 50), .int (sc 51), .int (sc 52), .int (sc 53), .int (sc 54), .long (lg 2), .int (sc 55), .int (sc 56), .ref (ad 59), .int (sc 57), .ref (ad 61), .int (sc 58), .ref (ad 60), .int (sc 59), .ref (ad 58), .ref (ad 57), .int (sc 60), .int (sc 61)])), (ad 53, .inl (cI, 10, .inl (ar 24))), (ad 63, .inl (cI, 104, .inl (ar 34)))]) hD hS hA [52, 53, 63] rfl
  refine va_calli (va_runV (As := [.int (xs (x3 + 1).toNatClampNeg)]) (rest := [.int q]) ⟨hx, hb, hml, hown, hts⟩ (c_X6_twice l dC dI cI cZ H.size (ad 53) (ad 54) (ad 55) (ad 56) (ad 57) (ad 58) (ad 59) (ad 60) (ad 61) (ad 62) (ad 63) (ad 64) (ad 52) (sc 46) (sc 47) (sc 48) (sc 49) (lg 1) (sc 50) (sc 51) (sc 52) (sc 53) (sc 54) (lg 2) (sc 55) (sc 56) (sc 57) (sc 58) (sc 59) (sc 60) (sc 61) (ar 24) (ar 34) (xs (x3 + 1).toNatClampNeg) q' hq') (cwV 1 hts gL_law_X6_twice rfl rfl rfl (by decide +kernel) ⟨Nat.le_of_ble_eq_true rfl, Nat.le_of_ble_eq_true rfl⟩) ⟨fun a U g mk q9 => ⟨q9.1, PC.mv q9.2⟩, va_recv hK hP (ci := 6) (q0 := 52) rfl rfl, fun U hU hW => ⟨rfl, PC.of hU hW hPc hK hDc hN⟩⟩ rfl rfl hl.1 rfl (lv_room (Nat.le_of_ble_eq_true rfl)) dL_law_464 ⟨Nat.le_of_ble_eq_true rfl, Nat.le_of_ble_eq_true rfl⟩) hS (fun q9 _ h => hFc q9 h) hFc (fun r_464 u t H1 locs ht hvm hw hB hz1 hk1 hS => ?_)
  obtain ⟨hP1, hD1⟩ := hB
  try dsimp only at hw
  rw [hw]
  rw [ht] at hP1
  have hP : va_P (dC, dI) vwCl (LW cI cZ ad sc ar lg) H1 := join_ro hP hD [52, 53, 63] rfl hk1 hP1
  clear hPc hDc hFc hk1 hz1 hP1 hD1 ht hvm
  generalize H1 = H at hP hS ⊢
  refine lv_icmp_eq (tgt := 951) hx hb dL_law_467 (by decide) (fun _ => ?_) (fun c9 => absurd heq c9)
  exact kont _ _ _ H locs hR' hP hD hS ls hl
