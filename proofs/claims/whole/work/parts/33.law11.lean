set_option maxHeartbeats 8000000 in
set_option maxRecDepth 100000 in
theorem law_second {Rel : RelT} {p : Program} {e : Env} {s : State} {m : MethodId} {below : List Frame} {meth : Method} {c : Code} (l : Launch) {b L : Nat} {xs : Nat → Int32} {dC : Nat → ClassId} {dI : Nat → Nat → Nat} {cI cZ : ClassId} {tL tM tN : Nat} {adK adV : Nat → Nat} {ad : Nat → Nat}
    (hL : L ≤ 320) (C0 : lw_At p s m meth c b L xs) (hK : va_K (dC, dI) vwCl [(cI, .int), (cZ, .boolean)] s) (hN : NW s) (hE : EV tL tM tN adK adV (fun q : Nat => s.heap.size ≤ q) s s.heap) (hop : OpS_second Rel)
    {x3 : Int32} (h0 : vp_in (x3 + 1) L) (h1 : vp_in (x3 + 2) L) (h2 : vp_in (x3 + 3) L) (h3 : vp_in (x3 + 4) L) (kont : ∀ (sc : Nat → Int32) (ar : Nat → Nat → Int32) (lg : Nat → Int64) (H : Heap) (locs : List Loc), Rel sc ar lg → va_P (dC, dI) vwCl (LW cI cZ ad sc ar lg) H → va_D (fun q : Nat => s.heap.size ≤ q) (LW cI cZ ad sc ar lg) → va_S (fun q : Nat => s.heap.size ≤ q) s.heap H locs → ∀ ls : Array Slot, lv_has ls 4 [(0, .ref b), (1, .ref (ad 0)), (2, .ref (ad 52)), (3, .int x3)] → W p l e room_1 s m #[Value.ref b] below meth c H locs 65 2010 (lw_Z below #[Value.ref b] s) (F0 m 951 ls []))
    (sc : Nat → Int32) (ar : Nat → Nat → Int32) (lg : Nat → Int64) (H : Heap) (locs : List Loc) (hR : Rel sc ar lg) (hP : va_P (dC, dI) vwCl (LW cI cZ ad sc ar lg) H) (hD : va_D (fun q : Nat => s.heap.size ≤ q) (LW cI cZ ad sc ar lg)) (hS : va_S (fun q : Nat => s.heap.size ≤ q) s.heap H locs) (ls : Array Slot) (hl : lv_has ls 4 [(0, .ref b), (1, .ref (ad 0)), (2, .ref (ad 52)), (3, .int x3)]) : W p l e room_1 s m #[Value.ref b] below meth c H locs 65 2010 (lw_Z below #[Value.ref b] s) (F0 m 802 ls []) := by
  obtain ⟨hx, hb, hr, hml, hown, hts0, hX, hbl, hlocks, hgv⟩ := id C0
  have hts := fun w h => hts0 w (wsL_law_in w h)
  have hA : ∀ q : Nat, s.heap.size ≤ q → (fun q : Nat => s.heap.size ≤ q) q := fun _ h => h
  have hbA : ¬ (fun q : Nat => s.heap.size ≤ q) b := Nat.not_le.mpr hbl
  obtain ⟨q, q', hq, hq', heq, hR'⟩ := hop sc ar lg hR (xs (x3 + 1).toNatClampNeg) (xs (x3 + 2).toNatClampNeg)
  refine lv_aload_n hx hb dL_law_802 rfl (lv_at hl 1 rfl) ?_
  refine lv_aload_n hx hb dL_law_803 rfl (lv_at hl 0 rfl) ?_
  refine lv_iload_n hx hb dL_law_804 rfl (lv_at hl 3 rfl) ?_
  refine lv_iconst (v := 1) hx hb dL_law_805 (by decide) ?_
  refine lv_iadd hx hb dL_law_806 ?_
  refine va_sld hx hb hX hbl hbA hS h0 dL_law_807 ?_
  refine lv_aload_n hx hb dL_law_808 rfl (lv_at hl 0 rfl) ?_
  refine lv_iload_n hx hb dL_law_809 rfl (lv_at hl 3 rfl) ?_
  refine lv_iconst (v := 2) hx hb dL_law_810 (by decide) ?_
  refine lv_iadd hx hb dL_law_811 ?_
  refine va_sld hx hb hX hbl hbA hS h1 dL_law_812 ?_
  have hPc : va_P (dC, dI) vwCl [(ad 0, .inr (5, [.ref (ad 41), .ref (ad 38), .ref (ad 43), .ref (ad 1), .ref (ad 28), .ref (ad 19), .ref (ad 10), .ref (ad 40), .ref (ad 37), .int (sc 0), .long (lg 0)])), (ad 28, .inr (0, [.ref (ad 33), .ref (ad 29), .ref (ad 31), .ref (ad 35)])), (ad 33, .inr (2, [.int (sc 29), .ref (ad 34), .int (sc 30)])), (ad 34, .inl (cI, 48, .inl (ar 14)))] H := hP.sub [0, 28, 33, 34] rfl
  have hDc : va_D (fun q : Nat => s.heap.size ≤ q) [(ad 0, .inr (5, [.ref (ad 41), .ref (ad 38), .ref (ad 43), .ref (ad 1), .ref (ad 28), .ref (ad 19), .ref (ad 10), .ref (ad 40), .ref (ad 37), .int (sc 0), .long (lg 0)])), (ad 28, .inr (0, [.ref (ad 33), .ref (ad 29), .ref (ad 31), .ref (ad 35)])), (ad 33, .inr (2, [.int (sc 29), .ref (ad 34), .int (sc 30)])), (ad 34, .inl (cI, 48, .inl (ar 14)))] := hD.sub [0, 28, 33, 34] (by decide) rfl
  have hFc := va_free (wc := [(ad 0, .inr (5, [.ref (ad 41), .ref (ad 38), .ref (ad 43), .ref (ad 1), .ref (ad 28), .ref (ad 19), .ref (ad 10), .ref (ad 40), .ref (ad 37), .int (sc 0), .long (lg 0)])), (ad 28, .inr (0, [.ref (ad 33), .ref (ad 29), .ref (ad 31), .ref (ad 35)])), (ad 33, .inr (2, [.int (sc 29), .ref (ad 34), .int (sc 30)])), (ad 34, .inl (cI, 48, .inl (ar 14)))]) hD hS hA [0, 28, 33, 34] rfl
  refine va_calli (va_runV (As := [.int (xs (x3 + 1).toNatClampNeg), .int (xs (x3 + 2).toNatClampNeg)]) (rest := []) ⟨hx, hb, hml, hown, hts⟩ (c_X5_second l dC dI cI cZ H.size (ad 1) (ad 10) (ad 19) (ad 28) (ad 29) (ad 31) (ad 33) (ad 34) (ad 35) (ad 37) (ad 38) (ad 40) (ad 41) (ad 0) (ad 43) (sc 0) (lg 0) (sc 29) (sc 30) (ar 14) (xs (x3 + 1).toNatClampNeg) (xs (x3 + 2).toNatClampNeg) q hq) (cwV 2 hts gL_law_X5_second rfl rfl rfl (by decide +kernel) ⟨Nat.le_of_ble_eq_true rfl, Nat.le_of_ble_eq_true rfl⟩) ⟨fun a U g mk q9 => ⟨q9.1, PC.mv q9.2⟩, va_recv hK hP (ci := 5) (q0 := 0) rfl rfl, fun U hU hW => ⟨rfl, PC.of hU hW hPc hK hDc hN⟩⟩ rfl rfl hl.1 rfl (lv_room (Nat.le_of_ble_eq_true rfl)) dL_law_813 ⟨Nat.le_of_ble_eq_true rfl, Nat.le_of_ble_eq_true rfl⟩) hS (fun q9 _ h => hFc q9 h) hFc (fun r_813 u t H1 locs ht hvm hw hB hz1 hk1 hS => ?_)
  obtain ⟨hP1, hD1⟩ := hB
  try dsimp only at hw
  rw [hw]
  rw [ht] at hP1
  have hP : va_P (dC, dI) vwCl (LW cI cZ ad sc ar lg) H1 := join_ro hP hD [0, 28, 33, 34] rfl hk1 hP1
  clear hPc hDc hFc hk1 hz1 hP1 hD1 ht hvm
  generalize H1 = H at hP hS ⊢
  refine lv_aload_n hx hb dL_law_816 rfl (lv_at hl 2 rfl) ?_
  refine lv_aload_n hx hb dL_law_817 rfl (lv_at hl 0 rfl) ?_
  refine lv_iload_n hx hb dL_law_818 rfl (lv_at hl 3 rfl) ?_
  refine lv_iconst (v := 1) hx hb dL_law_819 (by decide) ?_
  refine lv_iadd hx hb dL_law_820 ?_
  refine va_sld hx hb hX hbl hbA hS h0 dL_law_821 ?_
  refine lv_aload_n hx hb dL_law_822 rfl (lv_at hl 0 rfl) ?_
  refine lv_iload_n hx hb dL_law_823 rfl (lv_at hl 3 rfl) ?_
  refine lv_iconst (v := 2) hx hb dL_law_824 (by decide) ?_
  refine lv_iadd hx hb dL_law_825 ?_
  refine va_sld hx hb hX hbl hbA hS h1 dL_law_826 ?_
  have hPc : va_P (dC, dI) vwCl [(ad 52, .inr (6, [.int (sc 46), .int (sc 47), .ref (ad 62), .int (sc 48), .ref (ad 56), .int (sc 49), .ref (ad 53), .ref (ad 63), .ref (ad 54), .ref (ad 55), .long (lg 1), .ref (ad 64), .int (sc 50), .int (sc 51), .int (sc 52), .int (sc 53), .int (sc 54), .long (lg 2), .int (sc 55), .int (sc 56), .ref (ad 59), .int (sc 57), .ref (ad 61), .int (sc 58), .ref (ad 60), .int (sc 59), .ref (ad 58), .ref (ad 57), .int (sc 60), .int (sc 61)])), (ad 63, .inl (cI, 104, .inl (ar 34)))] H := hP.sub [52, 63] rfl
  have hDc : va_D (fun q : Nat => s.heap.size ≤ q) [(ad 52, .inr (6, [.int (sc 46), .int (sc 47), .ref (ad 62), .int (sc 48), .ref (ad 56), .int (sc 49), .ref (ad 53), .ref (ad 63), .ref (ad 54), .ref (ad 55), .long (lg 1), .ref (ad 64), .int (sc 50), .int (sc 51), .int (sc 52), .int (sc 53), .int (sc 54), .long (lg 2), .int (sc 55), .int (sc 56), .ref (ad 59), .int (sc 57), .ref (ad 61), .int (sc 58), .ref (ad 60), .int (sc 59), .ref (ad 58), .ref (ad 57), .int (sc 60), .int (sc 61)])), (ad 63, .inl (cI, 104, .inl (ar 34)))] := hD.sub [52, 63] (by decide) rfl
  have hFc := va_free (wc := [(ad 52, .inr (6, [.int (sc 46), .int (sc 47), .ref (ad 62), .int (sc 48), .ref (ad 56), .int (sc 49), .ref (ad 53), .ref (ad 63), .ref (ad 54), .ref (ad 55), .long (lg 1), .ref (ad 64), .int (sc 50), .int (sc 51), .int (sc 52), .int (sc 53), .int (sc 54), .long (lg 2), .int (sc 55), .int (sc 56), .ref (ad 59), .int (sc 57), .ref (ad 61), .int (sc 58), .ref (ad 60), .int (sc 59), .ref (ad 58), .ref (ad 57), .int (sc 60), .int (sc 61)])), (ad 63, .inl (cI, 104, .inl (ar 34)))]) hD hS hA [52, 63] rfl
  refine va_calli (va_runV (As := [.int (xs (x3 + 1).toNatClampNeg), .int (xs (x3 + 2).toNatClampNeg)]) (rest := [.int q]) ⟨hx, hb, hml, hown, hts⟩ (c_X6_second l dC dI cI cZ H.size (ad 53) (ad 54) (ad 55) (ad 56) (ad 57) (ad 58) (ad 59) (ad 60) (ad 61) (ad 62) (ad 63) (ad 64) (ad 52) (sc 46) (sc 47) (sc 48) (sc 49) (lg 1) (sc 50) (sc 51) (sc 52) (sc 53) (sc 54) (lg 2) (sc 55) (sc 56) (sc 57) (sc 58) (sc 59) (sc 60) (sc 61) (ar 34) (xs (x3 + 1).toNatClampNeg) (xs (x3 + 2).toNatClampNeg) q' hq') (cwV 2 hts gL_law_X6_second rfl rfl rfl (by decide +kernel) ⟨Nat.le_of_ble_eq_true rfl, Nat.le_of_ble_eq_true rfl⟩) ⟨fun a U g mk q9 => ⟨q9.1, PC.mv q9.2⟩, va_recv hK hP (ci := 6) (q0 := 52) rfl rfl, fun U hU hW => ⟨rfl, PC.of hU hW hPc hK hDc hN⟩⟩ rfl rfl hl.1 rfl (lv_room (Nat.le_of_ble_eq_true rfl)) dL_law_827 ⟨Nat.le_of_ble_eq_true rfl, Nat.le_of_ble_eq_true rfl⟩) hS (fun q9 _ h => hFc q9 h) hFc (fun r_827 u t H1 locs ht hvm hw hB hz1 hk1 hS => ?_)
  obtain ⟨hP1, hD1⟩ := hB
  try dsimp only at hw
  rw [hw]
  rw [ht] at hP1
  have hP : va_P (dC, dI) vwCl (LW cI cZ ad sc ar lg) H1 := join_ro hP hD [52, 63] rfl hk1 hP1
  clear hPc hDc hFc hk1 hz1 hP1 hD1 ht hvm
  generalize H1 = H at hP hS ⊢
  refine lv_icmp_eq (tgt := 951) hx hb dL_law_830 (by decide) (fun _ => ?_) (fun c9 => absurd heq c9)
  exact kont _ _ _ H locs hR' hP hD hS ls hl
set_option maxHeartbeats 8000000 in
set_option maxRecDepth 100000 in
theorem law_mark {Rel : RelT} {p : Program} {e : Env} {s : State} {m : MethodId} {below : List Frame} {meth : Method} {c : Code} (l : Launch) {b L : Nat} {xs : Nat → Int32} {dC : Nat → ClassId} {dI : Nat → Nat → Nat} {cI cZ : ClassId} {tL tM tN : Nat} {adK adV : Nat → Nat} {ad : Nat → Nat}
    (hL : L ≤ 320) (C0 : lw_At p s m meth c b L xs) (hK : va_K (dC, dI) vwCl [(cI, .int), (cZ, .boolean)] s) (hN : NW s) (hE : EV tL tM tN adK adV (fun q : Nat => s.heap.size ≤ q) s s.heap) (hop : OpS_mark Rel)
    {x3 : Int32} (h0 : vp_in (x3 + 1) L) (h1 : vp_in (x3 + 2) L) (h2 : vp_in (x3 + 3) L) (h3 : vp_in (x3 + 4) L) (kont : ∀ (sc : Nat → Int32) (ar : Nat → Nat → Int32) (lg : Nat → Int64) (H : Heap) (locs : List Loc), Rel sc ar lg → va_P (dC, dI) vwCl (LW cI cZ ad sc ar lg) H → va_D (fun q : Nat => s.heap.size ≤ q) (LW cI cZ ad sc ar lg) → va_S (fun q : Nat => s.heap.size ≤ q) s.heap H locs → ∀ ls : Array Slot, lv_has ls 4 [(0, .ref b), (1, .ref (ad 0)), (2, .ref (ad 52)), (3, .int x3)] → W p l e room_1 s m #[Value.ref b] below meth c H locs 65 2010 (lw_Z below #[Value.ref b] s) (F0 m 951 ls []))
    (sc : Nat → Int32) (ar : Nat → Nat → Int32) (lg : Nat → Int64) (H : Heap) (locs : List Loc) (hR : Rel sc ar lg) (hP : va_P (dC, dI) vwCl (LW cI cZ ad sc ar lg) H) (hD : va_D (fun q : Nat => s.heap.size ≤ q) (LW cI cZ ad sc ar lg)) (hS : va_S (fun q : Nat => s.heap.size ≤ q) s.heap H locs) (ls : Array Slot) (hl : lv_has ls 4 [(0, .ref b), (1, .ref (ad 0)), (2, .ref (ad 52)), (3, .int x3)]) : W p l e room_1 s m #[Value.ref b] below meth c H locs 65 2010 (lw_Z below #[Value.ref b] s) (F0 m 835 ls []) := by
  obtain ⟨hx, hb, hr, hml, hown, hts0, hX, hbl, hlocks, hgv⟩ := id C0
  have hts := fun w h => hts0 w (wsL_law_in w h)
  have hA : ∀ q : Nat, s.heap.size ≤ q → (fun q : Nat => s.heap.size ≤ q) q := fun _ h => h
  have hbA : ¬ (fun q : Nat => s.heap.size ≤ q) b := Nat.not_le.mpr hbl
  obtain ⟨q, q', hq, hq', heq, hR'⟩ := hop sc ar lg hR (xs (x3 + 1).toNatClampNeg) (xs (x3 + 2).toNatClampNeg)
  refine lv_aload_n hx hb dL_law_835 rfl (lv_at hl 1 rfl) ?_
  refine lv_aload_n hx hb dL_law_836 rfl (lv_at hl 0 rfl) ?_
  refine lv_iload_n hx hb dL_law_837 rfl (lv_at hl 3 rfl) ?_
  refine lv_iconst (v := 1) hx hb dL_law_838 (by decide) ?_
  refine lv_iadd hx hb dL_law_839 ?_
  refine va_sld hx hb hX hbl hbA hS h0 dL_law_840 ?_
  refine lv_aload_n hx hb dL_law_841 rfl (lv_at hl 0 rfl) ?_
  refine lv_iload_n hx hb dL_law_842 rfl (lv_at hl 3 rfl) ?_
  refine lv_iconst (v := 2) hx hb dL_law_843 (by decide) ?_
  refine lv_iadd hx hb dL_law_844 ?_
  refine va_sld hx hb hX hbl hbA hS h1 dL_law_845 ?_
  have hPc : va_P (dC, dI) vwCl [(ad 0, .inr (5, [.ref (ad 41), .ref (ad 38), .ref (ad 43), .ref (ad 1), .ref (ad 28), .ref (ad 19), .ref (ad 10), .ref (ad 40), .ref (ad 37), .int (sc 0), .long (lg 0)])), (ad 28, .inr (0, [.ref (ad 33), .ref (ad 29), .ref (ad 31), .ref (ad 35)])), (ad 31, .inr (2, [.int (sc 27), .ref (ad 32), .int (sc 28)])), (ad 32, .inl (cI, 48, .inl (ar 13))), (ad 33, .inr (2, [.int (sc 29), .ref (ad 34), .int (sc 30)])), (ad 43, .inr (4, [.ref (ad 46), .ref (ad 50), .ref (ad 48), .ref (ad 44)])), (ad 48, .inr (2, [.int (sc 42), .ref (ad 49), .int (sc 43)])), (ad 49, .inl (cI, 48, .inl (ar 22))), (ad 50, .inr (2, [.int (sc 44), .ref (ad 51), .int (sc 45)])), (ad 51, .inl (cI, 48, .inl (ar 23)))] H := hP.sub [0, 28, 31, 32, 33, 43, 48, 49, 50, 51] rfl
  have hDc : va_D (fun q : Nat => s.heap.size ≤ q) [(ad 0, .inr (5, [.ref (ad 41), .ref (ad 38), .ref (ad 43), .ref (ad 1), .ref (ad 28), .ref (ad 19), .ref (ad 10), .ref (ad 40), .ref (ad 37), .int (sc 0), .long (lg 0)])), (ad 28, .inr (0, [.ref (ad 33), .ref (ad 29), .ref (ad 31), .ref (ad 35)])), (ad 31, .inr (2, [.int (sc 27), .ref (ad 32), .int (sc 28)])), (ad 32, .inl (cI, 48, .inl (ar 13))), (ad 33, .inr (2, [.int (sc 29), .ref (ad 34), .int (sc 30)])), (ad 43, .inr (4, [.ref (ad 46), .ref (ad 50), .ref (ad 48), .ref (ad 44)])), (ad 48, .inr (2, [.int (sc 42), .ref (ad 49), .int (sc 43)])), (ad 49, .inl (cI, 48, .inl (ar 22))), (ad 50, .inr (2, [.int (sc 44), .ref (ad 51), .int (sc 45)])), (ad 51, .inl (cI, 48, .inl (ar 23)))] := hD.sub [0, 28, 31, 32, 33, 43, 48, 49, 50, 51] (by decide) rfl
  have hFc := va_free (wc := [(ad 0, .inr (5, [.ref (ad 41), .ref (ad 38), .ref (ad 43), .ref (ad 1), .ref (ad 28), .ref (ad 19), .ref (ad 10), .ref (ad 40), .ref (ad 37), .int (sc 0), .long (lg 0)])), (ad 28, .inr (0, [.ref (ad 33), .ref (ad 29), .ref (ad 31), .ref (ad 35)])), (ad 31, .inr (2, [.int (sc 27), .ref (ad 32), .int (sc 28)])), (ad 32, .inl (cI, 48, .inl (ar 13))), (ad 33, .inr (2, [.int (sc 29), .ref (ad 34), .int (sc 30)])), (ad 43, .inr (4, [.ref (ad 46), .ref (ad 50), .ref (ad 48), .ref (ad 44)])), (ad 48, .inr (2, [.int (sc 42), .ref (ad 49), .int (sc 43)])), (ad 49, .inl (cI, 48, .inl (ar 22))), (ad 50, .inr (2, [.int (sc 44), .ref (ad 51), .int (sc 45)])), (ad 51, .inl (cI, 48, .inl (ar 23)))]) hD hS hA [0, 28, 31, 32, 33, 43, 48, 49, 50, 51] rfl
  refine va_calli (va_runV (As := [.int (xs (x3 + 1).toNatClampNeg), .int (xs (x3 + 2).toNatClampNeg)]) (rest := []) ⟨hx, hb, hml, hown, hts⟩ (c_X5_mark l dC dI cI cZ H.size (ad 1) (ad 10) (ad 19) (ad 28) (ad 29) (ad 31) (ad 32) (ad 33) (ad 34) (ad 35) (ad 37) (ad 38) (ad 40) (ad 41) (ad 0) (ad 43) (ad 44) (ad 46) (ad 48) (ad 49) (ad 50) (ad 51) (sc 0) (lg 0) (sc 27) (sc 28) (ar 13) (sc 29) (sc 30) (sc 42) (sc 43) (ar 22) (sc 44) (sc 45) (ar 23) (xs (x3 + 1).toNatClampNeg) (xs (x3 + 2).toNatClampNeg) q hq) (cwV 2 hts gL_law_X5_mark rfl rfl rfl (by decide +kernel) ⟨Nat.le_of_ble_eq_true rfl, Nat.le_of_ble_eq_true rfl⟩) ⟨fun a U g mk q9 => ⟨q9.1, PC.mv q9.2⟩, va_recv hK hP (ci := 5) (q0 := 0) rfl rfl, fun U hU hW => ⟨rfl, PC.of hU hW hPc hK hDc hN⟩⟩ rfl rfl hl.1 rfl (lv_room (Nat.le_of_ble_eq_true rfl)) dL_law_846 ⟨Nat.le_of_ble_eq_true rfl, Nat.le_of_ble_eq_true rfl⟩) hS (fun q9 _ h => hFc q9 h) hFc (fun r_846 u t H1 locs ht hvm hw hB hz1 hk1 hS => ?_)
  obtain ⟨hP1, hD1⟩ := hB
  try dsimp only at hw
  rw [hw]
  rw [ht] at hP1
  have h9 := va_join (wr := [1, 2, 3, 4, 5, 6, 7, 8, 9, 10, 11, 12, 13, 14, 15, 16, 17, 18, 19, 20, 21, 22, 23, 24, 25, 26, 27, 29, 30, 34, 35, 36, 37, 38, 39, 40, 41, 42, 44, 45, 46, 47, 52, 53, 54, 55, 56, 57, 58, 59, 60, 61, 62, 63, 64].filterMap (fun i => (LW cI cZ ad sc ar lg)[i]?)) (w1 := [(ad 0, .inr (5, [.ref (ad 41), .ref (ad 38), .ref (ad 43), .ref (ad 1), .ref (ad 28), .ref (ad 19), .ref (ad 10), .ref (ad 40), .ref (ad 37), .int (sc 0), .long q.2])), (ad 28, .inr (0, [.ref (ad 33), .ref (ad 29), .ref (ad 31), .ref (ad 35)])), (ad 31, .inr (2, [.int (sc 27), .ref (ad 32), .int (sc 28)])), (ad 32, .inl (cI, 48, .inl (ar 13))), (ad 33, .inr (2, [.int (sc 29), .ref (ad 34), .int (sc 30)])), (ad 43, .inr (4, [.ref (ad 46), .ref (ad 50), .ref (ad 48), .ref (ad 44)])), (ad 48, .inr (2, [.int (sc 42), .ref (ad 49), .int (sc 43)])), (ad 49, .inl (cI, 48, .inl (ar 22))), (ad 50, .inr (2, [.int (sc 44), .ref (ad 51), .int (sc 45)])), (ad 51, .inl (cI, 48, .inl (ar 23)))]) hP hD [0, 28, 31, 32, 33, 43, 48, 49, 50, 51] [1, 2, 3, 4, 5, 6, 7, 8, 9, 10, 11, 12, 13, 14, 15, 16, 17, 18, 19, 20, 21, 22, 23, 24, 25, 26, 27, 29, 30, 34, 35, 36, 37, 38, 39, 40, 41, 42, 44, 45, 46, 47, 52, 53, 54, 55, 56, 57, 58, 59, 60, 61, 62, 63, 64] rfl rfl (by decide) (by decide) hk1 hFc hP1 hD1
  have hP : va_P (dC, dI) vwCl (LW cI cZ ad sc ar (uv lg 0 q.2)) H1 := h9.1.sub [55, 0, 1, 2, 3, 4, 5, 6, 7, 8, 9, 10, 11, 12, 13, 14, 15, 16, 17, 18, 19, 20, 21, 22, 23, 24, 25, 26, 56, 27, 28, 57, 58, 59, 29, 30, 31, 32, 33, 34, 35, 36, 37, 60, 38, 39, 40, 41, 61, 62, 63, 64, 42, 43, 44, 45, 46, 47, 48, 49, 50, 51, 52, 53, 54] rfl
  have hD : va_D (fun q : Nat => s.heap.size ≤ q) (LW cI cZ ad sc ar (uv lg 0 q.2)) := h9.2.sub [55, 0, 1, 2, 3, 4, 5, 6, 7, 8, 9, 10, 11, 12, 13, 14, 15, 16, 17, 18, 19, 20, 21, 22, 23, 24, 25, 26, 56, 27, 28, 57, 58, 59, 29, 30, 31, 32, 33, 34, 35, 36, 37, 60, 38, 39, 40, 41, 61, 62, 63, 64, 42, 43, 44, 45, 46, 47, 48, 49, 50, 51, 52, 53, 54] (by decide) rfl
  clear h9
  clear hPc hDc hFc hk1 hz1 hP1 hD1 ht hvm
  generalize H1 = H at hP hS ⊢
  refine lv_aload_n hx hb dL_law_849 rfl (lv_at hl 2 rfl) ?_
  refine lv_aload_n hx hb dL_law_850 rfl (lv_at hl 0 rfl) ?_
  refine lv_iload_n hx hb dL_law_851 rfl (lv_at hl 3 rfl) ?_
  refine lv_iconst (v := 1) hx hb dL_law_852 (by decide) ?_
  refine lv_iadd hx hb dL_law_853 ?_
  refine va_sld hx hb hX hbl hbA hS h0 dL_law_854 ?_
  refine lv_aload_n hx hb dL_law_855 rfl (lv_at hl 0 rfl) ?_
  refine lv_iload_n hx hb dL_law_856 rfl (lv_at hl 3 rfl) ?_
  refine lv_iconst (v := 2) hx hb dL_law_857 (by decide) ?_
  refine lv_iadd hx hb dL_law_858 ?_
  refine va_sld hx hb hX hbl hbA hS h1 dL_law_859 ?_
  have hPc : va_P (dC, dI) vwCl [(ad 52, .inr (6, [.int (sc 46), .int (sc 47), .ref (ad 62), .int (sc 48), .ref (ad 56), .int (sc 49), .ref (ad 53), .ref (ad 63), .ref (ad 54), .ref (ad 55), .long (lg 1), .ref (ad 64), .int (sc 50), .int (sc 51), .int (sc 52), .int (sc 53), .int (sc 54), .long (lg 2), .int (sc 55), .int (sc 56), .ref (ad 59), .int (sc 57), .ref (ad 61), .int (sc 58), .ref (ad 60), .int (sc 59), .ref (ad 58), .ref (ad 57), .int (sc 60), .int (sc 61)])), (ad 56, .inl (cI, 9, .inl (ar 27))), (ad 62, .inl (cI, 20, .inl (ar 33))), (ad 63, .inl (cI, 104, .inl (ar 34)))] H := hP.sub [52, 56, 62, 63] rfl
  have hDc : va_D (fun q : Nat => s.heap.size ≤ q) [(ad 52, .inr (6, [.int (sc 46), .int (sc 47), .ref (ad 62), .int (sc 48), .ref (ad 56), .int (sc 49), .ref (ad 53), .ref (ad 63), .ref (ad 54), .ref (ad 55), .long (lg 1), .ref (ad 64), .int (sc 50), .int (sc 51), .int (sc 52), .int (sc 53), .int (sc 54), .long (lg 2), .int (sc 55), .int (sc 56), .ref (ad 59), .int (sc 57), .ref (ad 61), .int (sc 58), .ref (ad 60), .int (sc 59), .ref (ad 58), .ref (ad 57), .int (sc 60), .int (sc 61)])), (ad 56, .inl (cI, 9, .inl (ar 27))), (ad 62, .inl (cI, 20, .inl (ar 33))), (ad 63, .inl (cI, 104, .inl (ar 34)))] := hD.sub [52, 56, 62, 63] (by decide) rfl
  have hFc := va_free (wc := [(ad 52, .inr (6, [.int (sc 46), .int (sc 47), .ref (ad 62), .int (sc 48), .ref (ad 56), .int (sc 49), .ref (ad 53), .ref (ad 63), .ref (ad 54), .ref (ad 55), .long (lg 1), .ref (ad 64), .int (sc 50), .int (sc 51), .int (sc 52), .int (sc 53), .int (sc 54), .long (lg 2), .int (sc 55), .int (sc 56), .ref (ad 59), .int (sc 57), .ref (ad 61), .int (sc 58), .ref (ad 60), .int (sc 59), .ref (ad 58), .ref (ad 57), .int (sc 60), .int (sc 61)])), (ad 56, .inl (cI, 9, .inl (ar 27))), (ad 62, .inl (cI, 20, .inl (ar 33))), (ad 63, .inl (cI, 104, .inl (ar 34)))]) hD hS hA [52, 56, 62, 63] rfl
  refine va_calli (va_runV (As := [.int (xs (x3 + 1).toNatClampNeg), .int (xs (x3 + 2).toNatClampNeg)]) (rest := [.int q.1]) ⟨hx, hb, hml, hown, hts⟩ (c_X6_mark l dC dI cI cZ H.size (ad 53) (ad 54) (ad 55) (ad 56) (ad 57) (ad 58) (ad 59) (ad 60) (ad 61) (ad 62) (ad 63) (ad 64) (ad 52) (sc 46) (sc 47) (sc 48) (sc 49) (lg 1) (sc 50) (sc 51) (sc 52) (sc 53) (sc 54) (lg 2) (sc 55) (sc 56) (sc 57) (sc 58) (sc 59) (sc 60) (sc 61) (ar 27) (ar 33) (ar 34) (xs (x3 + 1).toNatClampNeg) (xs (x3 + 2).toNatClampNeg) q' hq') (cwV 2 hts gL_law_X6_mark rfl rfl rfl (by decide +kernel) ⟨Nat.le_of_ble_eq_true rfl, Nat.le_of_ble_eq_true rfl⟩) ⟨fun a U g mk q9 => ⟨q9.1, PC.mv q9.2⟩, va_recv hK hP (ci := 6) (q0 := 52) rfl rfl, fun U hU hW => ⟨rfl, PC.of hU hW hPc hK hDc hN⟩⟩ rfl rfl hl.1 rfl (lv_room (Nat.le_of_ble_eq_true rfl)) dL_law_860 ⟨Nat.le_of_ble_eq_true rfl, Nat.le_of_ble_eq_true rfl⟩) hS (fun q9 _ h => hFc q9 h) hFc (fun r_860 u t H1 locs ht hvm hw hB hz1 hk1 hS => ?_)
  obtain ⟨hP1, hD1⟩ := hB
  try dsimp only at hw
  rw [hw]
  rw [ht] at hP1
  have h9 := va_join (wr := [0, 1, 2, 3, 4, 5, 6, 7, 8, 9, 10, 11, 12, 13, 14, 15, 16, 17, 18, 19, 20, 21, 22, 23, 24, 25, 26, 27, 28, 29, 30, 31, 32, 33, 34, 35, 36, 37, 38, 39, 40, 41, 42, 43, 44, 45, 46, 47, 48, 49, 50, 51, 53, 54, 55, 57, 58, 59, 60, 61, 64].filterMap (fun i => (LW cI cZ ad sc ar (uv lg 0 q.2))[i]?)) (w1 := [(ad 52, .inr (6, [.int (sc 46), .int (sc 47), .ref (ad 62), .int (sc 48), .ref (ad 56), .int (sc 49), .ref (ad 53), .ref (ad 63), .ref (ad 54), .ref (ad 55), .long q'.2, .ref (ad 64), .int (sc 50), .int (sc 51), .int (sc 52), .int (sc 53), .int (sc 54), .long (lg 2), .int (sc 55), .int (sc 56), .ref (ad 59), .int (sc 57), .ref (ad 61), .int (sc 58), .ref (ad 60), .int (sc 59), .ref (ad 58), .ref (ad 57), .int (sc 60), .int (sc 61)])), (ad 56, .inl (cI, 9, .inl (ar 27))), (ad 62, .inl (cI, 20, .inl (ar 33))), (ad 63, .inl (cI, 104, .inl (ar 34)))]) hP hD [52, 56, 62, 63] [0, 1, 2, 3, 4, 5, 6, 7, 8, 9, 10, 11, 12, 13, 14, 15, 16, 17, 18, 19, 20, 21, 22, 23, 24, 25, 26, 27, 28, 29, 30, 31, 32, 33, 34, 35, 36, 37, 38, 39, 40, 41, 42, 43, 44, 45, 46, 47, 48, 49, 50, 51, 53, 54, 55, 57, 58, 59, 60, 61, 64] rfl rfl (by decide) (by decide) hk1 hFc hP1 hD1
  have hP : va_P (dC, dI) vwCl (LW cI cZ ad sc ar (uv (uv lg 0 q.2) 1 q'.2)) H1 := h9.1.sub [0, 1, 2, 3, 4, 5, 6, 7, 8, 9, 10, 11, 12, 13, 14, 15, 16, 17, 18, 19, 20, 21, 22, 23, 24, 25, 26, 27, 28, 29, 30, 31, 32, 33, 34, 35, 36, 37, 38, 39, 40, 41, 42, 43, 44, 45, 46, 47, 48, 49, 50, 51, 61, 52, 53, 54, 62, 55, 56, 57, 58, 59, 63, 64, 60] rfl
  have hD : va_D (fun q : Nat => s.heap.size ≤ q) (LW cI cZ ad sc ar (uv (uv lg 0 q.2) 1 q'.2)) := h9.2.sub [0, 1, 2, 3, 4, 5, 6, 7, 8, 9, 10, 11, 12, 13, 14, 15, 16, 17, 18, 19, 20, 21, 22, 23, 24, 25, 26, 27, 28, 29, 30, 31, 32, 33, 34, 35, 36, 37, 38, 39, 40, 41, 42, 43, 44, 45, 46, 47, 48, 49, 50, 51, 61, 52, 53, 54, 62, 55, 56, 57, 58, 59, 63, 64, 60] (by decide) rfl
  clear h9
  clear hPc hDc hFc hk1 hz1 hP1 hD1 ht hvm
  generalize H1 = H at hP hS ⊢
  refine lv_icmp_eq (tgt := 951) hx hb dL_law_863 (by decide) (fun _ => ?_) (fun c9 => absurd heq c9)
  exact kont _ _ _ H locs hR' hP hD hS ls hl
