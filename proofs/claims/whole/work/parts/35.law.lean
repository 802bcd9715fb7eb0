theorem tab_out25 {x : Int32} (h0 : ¬ x = 0) (h1 : ¬ x = 1) (h2 : ¬ x = 2) (h3 : ¬ x = 3) (h4 : ¬ x = 4) (h5 : ¬ x = 5) (h6 : ¬ x = 6) (h7 : ¬ x = 7) (h8 : ¬ x = 8) (h9 : ¬ x = 9) (h10 : ¬ x = 10) (h11 : ¬ x = 11) (h12 : ¬ x = 12) (h13 : ¬ x = 13) (h14 : ¬ x = 14) (h15 : ¬ x = 15) (h16 : ¬ x = 16) (h17 : ¬ x = 17) (h18 : ¬ x = 18) (h19 : ¬ x = 19) (h20 : ¬ x = 20) (h21 : ¬ x = 21) (h22 : ¬ x = 22) (h23 : ¬ x = 23) (h24 : ¬ x = 24) (h25 : ¬ x = 25) : x.toInt < 0 ∨ 25 < x.toInt := by
  have a0 : ¬ x.toInt = 0 := lv_neT h0 (by decide)
  have a1 : ¬ x.toInt = 1 := lv_neT h1 (by decide)
  have a2 : ¬ x.toInt = 2 := lv_neT h2 (by decide)
  have a3 : ¬ x.toInt = 3 := lv_neT h3 (by decide)
  have a4 : ¬ x.toInt = 4 := lv_neT h4 (by decide)
  have a5 : ¬ x.toInt = 5 := lv_neT h5 (by decide)
  have a6 : ¬ x.toInt = 6 := lv_neT h6 (by decide)
  have a7 : ¬ x.toInt = 7 := lv_neT h7 (by decide)
  have a8 : ¬ x.toInt = 8 := lv_neT h8 (by decide)
  have a9 : ¬ x.toInt = 9 := lv_neT h9 (by decide)
  have a10 : ¬ x.toInt = 10 := lv_neT h10 (by decide)
  have a11 : ¬ x.toInt = 11 := lv_neT h11 (by decide)
  have a12 : ¬ x.toInt = 12 := lv_neT h12 (by decide)
  have a13 : ¬ x.toInt = 13 := lv_neT h13 (by decide)
  have a14 : ¬ x.toInt = 14 := lv_neT h14 (by decide)
  have a15 : ¬ x.toInt = 15 := lv_neT h15 (by decide)
  have a16 : ¬ x.toInt = 16 := lv_neT h16 (by decide)
  have a17 : ¬ x.toInt = 17 := lv_neT h17 (by decide)
  have a18 : ¬ x.toInt = 18 := lv_neT h18 (by decide)
  have a19 : ¬ x.toInt = 19 := lv_neT h19 (by decide)
  have a20 : ¬ x.toInt = 20 := lv_neT h20 (by decide)
  have a21 : ¬ x.toInt = 21 := lv_neT h21 (by decide)
  have a22 : ¬ x.toInt = 22 := lv_neT h22 (by decide)
  have a23 : ¬ x.toInt = 23 := lv_neT h23 (by decide)
  have a24 : ¬ x.toInt = 24 := lv_neT h24 (by decide)
  have a25 : ¬ x.toInt = 25 := lv_neT h25 (by decide)
  omega

/-- not over: five more are there -/
theorem law_more {i L : Nat} (hL : L ≤ 320) (hi : i ≤ L + 4) (h : ¬ Int32.ofNat L - 5 < nI i) : i + 5 ≤ L := by
  have e1 : (nI L - nI 5).toInt = (L : Int) - 5 := pk_sub_toInt (by omega) (by omega)
  have e2 : (nI i).toInt = (i : Int) := nI_toInt (by omega)
  have h1 : ¬ (nI L - nI 5) < nI i := h
  rw [Int32.lt_iff_toInt_lt, e1, e2] at h1
  omega
theorem in_arg {i k L : Nat} (hL : L ≤ 320) (h : i + k < L) : vp_in (nI i + nI k) L := by
  rw [nI_add]
  exact vp_in_nI h (by omega)

set_option maxHeartbeats 8000000 in
set_option maxRecDepth 100000 in
theorem law_loop {Rel : RelT} {p : Program} {e : Env} {s : State} {m : MethodId} {below : List Frame} {meth : Method} {c : Code} (l : Launch) {b L : Nat} {xs : Nat → Int32} {dC : Nat → ClassId} {dI : Nat → Nat → Nat} {cI cZ : ClassId} {tL tM tN : Nat} {adK adV : Nat → Nat} {ad : Nat → Nat}
    (hL : L ≤ 320) (C0 : lw_At p s m meth c b L xs) (hK : va_K (dC, dI) vwCl [(cI, .int), (cZ, .boolean)] s) (hN : NW s) (hE : EV tL tM tN adK adV (fun q : Nat => s.heap.size ≤ q) s s.heap) (o_type : OpS_type Rel) (o_clear : OpS_clear Rel) (o_valley : OpS_valley Rel) (o_looks : OpS_looks Rel) (o_hears : OpS_hears Rel) (o_asker : OpS_asker Rel) (o_turn : OpS_turn Rel) (o_lend : OpS_lend Rel) (o_lent : OpS_lent Rel) (o_twice : OpS_twice Rel) (o_undo : OpS_undo Rel) (o_best : OpS_best Rel) (o_chance : OpS_chance Rel) (o_apart : OpS_apart Rel) (o_heard : OpS_heard Rel) (o_forget : OpS_forget Rel) (o_sky : OpS_sky Rel) (o_ours : OpS_ours Rel) (o_could : OpS_could Rel) (o_must : OpS_must Rel) (o_second : OpS_second Rel) (o_mark : OpS_mark Rel) (o_keep : OpS_keep Rel) (o_back : OpS_back Rel) (o_count : OpS_count Rel) (o_trace : OpS_trace Rel) :
    ∀ (n i : Nat) (x3 : Int32), i ≤ L + 4 → L + 5 ≤ i + n → x3 = nI i → ∀ (sc : Nat → Int32) (ar : Nat → Nat → Int32) (lg : Nat → Int64) (H : Heap) (locs : List Loc), Rel sc ar lg → va_P (dC, dI) vwCl (LW cI cZ ad sc ar lg) H → va_D (fun q : Nat => s.heap.size ≤ q) (LW cI cZ ad sc ar lg) → va_S (fun q : Nat => s.heap.size ≤ q) s.heap H locs → ∀ ls : Array Slot, lv_has ls 4 [(0, .ref b), (1, .ref (ad 0)), (2, .ref (ad 52)), (3, .int x3)] → W p l e room_1 s m #[Value.ref b] below meth c H locs 65 2010 (lw_Z below #[Value.ref b] s) (F0 m 18 ls []) := by
  obtain ⟨hx, hb, hr, hml, hown, hts0, hX, hbl, hlocks, hgv⟩ := id C0
  have hts := fun w h => hts0 w (wsL_law_in w h)
  have hA : ∀ q : Nat, s.heap.size ≤ q → (fun q : Nat => s.heap.size ≤ q) q := fun _ h => h
  have hbA : ¬ (fun q : Nat => s.heap.size ≤ q) b := Nat.not_le.mpr hbl
  intro n
  induction n with
  | zero => intro i x3 h1 h2; exact absurd h2 (by omega)
  | succ n ih =>
    intro i x3 hi hin ex sc ar lg H locs hR hP hD hS ls hl
    refine lv_iload_n hx hb dL_law_18 rfl (lv_at hl 3 rfl) ?_
    refine lv_aload_n hx hb dL_law_19 rfl (lv_at hl 0 rfl) ?_
    refine va_slen hx hb hX hbl hbA hS dL_law_20 ?_
    refine lv_iconst (v := 5) hx hb dL_law_21 (by decide) ?_
    refine lv_isub hx hb dL_law_22 ?_
    refine lv_icmp_gt (tgt := 957) hx hb dL_law_23 (by decide) (fun c1 => ?_) (fun c1 => ?_)
    · refine lv_iconst (v := 1) hx hb dL_law_957 (by decide) ?_
      refine va_forget (fun q hq => hS.2.2 q hq) ?_
      exact lw_ret hx hb hr hlocks dL_law_958
    · have hle : i + 5 ≤ L := law_more hL hi (by rw [← ex]; exact c1)
      have hi0 : vp_in x3 L := by rw [ex]; exact vp_in_nI (by omega) (by omega)
      have hi1 : vp_in (x3 + 1) L := by rw [ex]; exact in_arg (k := 1) hL (by omega)
      have hi2 : vp_in (x3 + 2) L := by rw [ex]; exact in_arg (k := 2) hL (by omega)
      have hi3 : vp_in (x3 + 3) L := by rw [ex]; exact in_arg (k := 3) hL (by omega)
      have hi4 : vp_in (x3 + 4) L := by rw [ex]; exact in_arg (k := 4) hL (by omega)
      refine lv_aload_n hx hb dL_law_26 rfl (lv_at hl 0 rfl) ?_
      refine lv_iload_n hx hb dL_law_27 rfl (lv_at hl 3 rfl) ?_
      refine va_sld hx hb hX hbl hbA hS hi0 dL_law_28 ?_
      refine lv_bipush (v := 31) hx hb dL_law_29 (by decide) ?_
      refine lv_iand hx hb dL_law_31 ?_
      refine lv_topi (fun v hv => ?_)
      clear hv
      have kont : ∀ (sc : Nat → Int32) (ar : Nat → Nat → Int32) (lg : Nat → Int64) (H : Heap) (locs : List Loc), Rel sc ar lg → va_P (dC, dI) vwCl (LW cI cZ ad sc ar lg) H → va_D (fun q : Nat => s.heap.size ≤ q) (LW cI cZ ad sc ar lg) → va_S (fun q : Nat => s.heap.size ≤ q) s.heap H locs → ∀ ls : Array Slot, lv_has ls 4 [(0, .ref b), (1, .ref (ad 0)), (2, .ref (ad 52)), (3, .int x3)] → W p l e room_1 s m #[Value.ref b] below meth c H locs 65 2010 (lw_Z below #[Value.ref b] s) (F0 m 951 ls []) := by
        intro sc ar lg H locs hR hP hD hS ls hl
        refine lv_iinc (v := x3 + 5) (lv' := [(3, .int (x3 + 5)), (0, .ref b), (1, .ref (ad 0)), (2, .ref (ad 52))]) hx hb dL_law_951 hl (k := 3) rfl rfl (by decide) rfl (fun ls hl => ?_)
        refine lv_goto (tgt := 18) hx hb dL_law_954 (by decide) ?_
        exact ih (i + 5) (x3 + 5) (by omega) (by omega) (by rw [ex]; exact nI_add i 5) sc ar lg H locs hR hP hD hS ls (lv_sub hl [1, 2, 3, 0] rfl)
      by_cases c_0 : v = 0
      · refine lv_tableIn (tgt := 152) (off := 120) hx hb dL_law_32 (by rw [c_0]; decide) (by rw [c_0]; decide) (by rw [c_0]; decide) (by decide) ?_
        exact law_type l hL C0 hK hN hE o_type hi1 hi2 hi3 hi4 kont sc ar lg H locs hR hP hD hS ls hl
      by_cases c_1 : v = 1
      · refine lv_tableIn (tgt := 215) (off := 183) hx hb dL_law_32 (by rw [c_1]; decide) (by rw [c_1]; decide) (by rw [c_1]; decide) (by decide) ?_
        exact law_clear l hL C0 hK hN hE o_clear hi1 hi2 hi3 hi4 kont sc ar lg H locs hR hP hD hS ls hl
      by_cases c_2 : v = 2
      · refine lv_tableIn (tgt := 228) (off := 196) hx hb dL_law_32 (by rw [c_2]; decide) (by rw [c_2]; decide) (by rw [c_2]; decide) (by decide) ?_
        exact law_valley l hL C0 hK hN hE o_valley hi1 hi2 hi3 hi4 kont sc ar lg H locs hR hP hD hS ls hl
      by_cases c_3 : v = 3
      · refine lv_tableIn (tgt := 241) (off := 209) hx hb dL_law_32 (by rw [c_3]; decide) (by rw [c_3]; decide) (by rw [c_3]; decide) (by decide) ?_
        exact law_looks l hL C0 hK hN hE o_looks hi1 hi2 hi3 hi4 kont sc ar lg H locs hR hP hD hS ls hl
      by_cases c_4 : v = 4
      · refine lv_tableIn (tgt := 274) (off := 242) hx hb dL_law_32 (by rw [c_4]; decide) (by rw [c_4]; decide) (by rw [c_4]; decide) (by decide) ?_
        exact law_hears l hL C0 hK hN hE o_hears hi1 hi2 hi3 hi4 kont sc ar lg H locs hR hP hD hS ls hl
      by_cases c_5 : v = 5
      · refine lv_tableIn (tgt := 307) (off := 275) hx hb dL_law_32 (by rw [c_5]; decide) (by rw [c_5]; decide) (by rw [c_5]; decide) (by decide) ?_
        exact law_asker l hL C0 hK hN hE o_asker hi1 hi2 hi3 hi4 kont sc ar lg H locs hR hP hD hS ls hl
      by_cases c_6 : v = 6
      · refine lv_tableIn (tgt := 340) (off := 308) hx hb dL_law_32 (by rw [c_6]; decide) (by rw [c_6]; decide) (by rw [c_6]; decide) (by decide) ?_
        exact law_turn l hL C0 hK hN hE o_turn hi1 hi2 hi3 hi4 kont sc ar lg H locs hR hP hD hS ls hl
      by_cases c_7 : v = 7
      · refine lv_tableIn (tgt := 373) (off := 341) hx hb dL_law_32 (by rw [c_7]; decide) (by rw [c_7]; decide) (by rw [c_7]; decide) (by decide) ?_
        exact law_lend l hL C0 hK hN hE o_lend hi1 hi2 hi3 hi4 kont sc ar lg H locs hR hP hD hS ls hl
      by_cases c_8 : v = 8
      · refine lv_tableIn (tgt := 416) (off := 384) hx hb dL_law_32 (by rw [c_8]; decide) (by rw [c_8]; decide) (by rw [c_8]; decide) (by decide) ?_
        exact law_lent l hL C0 hK hN hE o_lent hi1 hi2 hi3 hi4 kont sc ar lg H locs hR hP hD hS ls hl
      by_cases c_9 : v = 9
      · refine lv_tableIn (tgt := 449) (off := 417) hx hb dL_law_32 (by rw [c_9]; decide) (by rw [c_9]; decide) (by rw [c_9]; decide) (by decide) ?_
        exact law_twice l hL C0 hK hN hE o_twice hi1 hi2 hi3 hi4 kont sc ar lg H locs hR hP hD hS ls hl
      by_cases c_10 : v = 10
      · refine lv_tableIn (tgt := 472) (off := 440) hx hb dL_law_32 (by rw [c_10]; decide) (by rw [c_10]; decide) (by rw [c_10]; decide) (by decide) ?_
        exact law_undo l hL C0 hK hN hE o_undo hi1 hi2 hi3 hi4 kont sc ar lg H locs hR hP hD hS ls hl
      by_cases c_11 : v = 11
      · refine lv_tableIn (tgt := 485) (off := 453) hx hb dL_law_32 (by rw [c_11]; decide) (by rw [c_11]; decide) (by rw [c_11]; decide) (by decide) ?_
        exact law_best l hL C0 hK hN hE o_best hi1 hi2 hi3 hi4 kont sc ar lg H locs hR hP hD hS ls hl
      by_cases c_12 : v = 12
      · refine lv_tableIn (tgt := 528) (off := 496) hx hb dL_law_32 (by rw [c_12]; decide) (by rw [c_12]; decide) (by rw [c_12]; decide) (by decide) ?_
        exact law_chance l hL C0 hK hN hE o_chance hi1 hi2 hi3 hi4 kont sc ar lg H locs hR hP hD hS ls hl
      by_cases c_13 : v = 13
      · refine lv_tableIn (tgt := 571) (off := 539) hx hb dL_law_32 (by rw [c_13]; decide) (by rw [c_13]; decide) (by rw [c_13]; decide) (by decide) ?_
        exact law_apart l hL C0 hK hN hE o_apart hi1 hi2 hi3 hi4 kont sc ar lg H locs hR hP hD hS ls hl
      by_cases c_14 : v = 14
      · refine lv_tableIn (tgt := 614) (off := 582) hx hb dL_law_32 (by rw [c_14]; decide) (by rw [c_14]; decide) (by rw [c_14]; decide) (by decide) ?_
        exact law_heard l hL C0 hK hN hE o_heard hi1 hi2 hi3 hi4 kont sc ar lg H locs hR hP hD hS ls hl
      by_cases c_15 : v = 15
      · refine lv_tableIn (tgt := 667) (off := 635) hx hb dL_law_32 (by rw [c_15]; decide) (by rw [c_15]; decide) (by rw [c_15]; decide) (by decide) ?_
        exact law_forget l hL C0 hK hN hE o_forget hi1 hi2 hi3 hi4 kont sc ar lg H locs hR hP hD hS ls hl
      by_cases c_16 : v = 16
      · refine lv_tableIn (tgt := 680) (off := 648) hx hb dL_law_32 (by rw [c_16]; decide) (by rw [c_16]; decide) (by rw [c_16]; decide) (by decide) ?_
        exact law_sky l hL C0 hK hN hE o_sky hi1 hi2 hi3 hi4 kont sc ar lg H locs hR hP hD hS ls hl
      by_cases c_17 : v = 17
      · refine lv_tableIn (tgt := 703) (off := 671) hx hb dL_law_32 (by rw [c_17]; decide) (by rw [c_17]; decide) (by rw [c_17]; decide) (by decide) ?_
        exact law_ours l hL C0 hK hN hE o_ours hi1 hi2 hi3 hi4 kont sc ar lg H locs hR hP hD hS ls hl
      by_cases c_18 : v = 18
      · refine lv_tableIn (tgt := 736) (off := 704) hx hb dL_law_32 (by rw [c_18]; decide) (by rw [c_18]; decide) (by rw [c_18]; decide) (by decide) ?_
        exact law_could l hL C0 hK hN hE o_could hi1 hi2 hi3 hi4 kont sc ar lg H locs hR hP hD hS ls hl
      by_cases c_19 : v = 19
      · refine lv_tableIn (tgt := 759) (off := 727) hx hb dL_law_32 (by rw [c_19]; decide) (by rw [c_19]; decide) (by rw [c_19]; decide) (by decide) ?_
        exact law_must l hL C0 hK hN hE o_must hi1 hi2 hi3 hi4 kont sc ar lg H locs hR hP hD hS ls hl
      by_cases c_20 : v = 20
      · refine lv_tableIn (tgt := 802) (off := 770) hx hb dL_law_32 (by rw [c_20]; decide) (by rw [c_20]; decide) (by rw [c_20]; decide) (by decide) ?_
        exact law_second l hL C0 hK hN hE o_second hi1 hi2 hi3 hi4 kont sc ar lg H locs hR hP hD hS ls hl
      by_cases c_21 : v = 21
      · refine lv_tableIn (tgt := 835) (off := 803) hx hb dL_law_32 (by rw [c_21]; decide) (by rw [c_21]; decide) (by rw [c_21]; decide) (by decide) ?_
        exact law_mark l hL C0 hK hN hE o_mark hi1 hi2 hi3 hi4 kont sc ar lg H locs hR hP hD hS ls hl
      by_cases c_22 : v = 22
      · refine lv_tableIn (tgt := 868) (off := 836) hx hb dL_law_32 (by rw [c_22]; decide) (by rw [c_22]; decide) (by rw [c_22]; decide) (by decide) ?_
        exact law_keep l hL C0 hK hN hE o_keep hi1 hi2 hi3 hi4 kont sc ar lg H locs hR hP hD hS ls hl
      by_cases c_23 : v = 23
      · refine lv_tableIn (tgt := 891) (off := 859) hx hb dL_law_32 (by rw [c_23]; decide) (by rw [c_23]; decide) (by rw [c_23]; decide) (by decide) ?_
        exact law_back l hL C0 hK hN hE o_back hi1 hi2 hi3 hi4 kont sc ar lg H locs hR hP hD hS ls hl
      by_cases c_24 : v = 24
      · refine lv_tableIn (tgt := 914) (off := 882) hx hb dL_law_32 (by rw [c_24]; decide) (by rw [c_24]; decide) (by rw [c_24]; decide) (by decide) ?_
        exact law_count l hL C0 hK hN hE o_count hi1 hi2 hi3 hi4 kont sc ar lg H locs hR hP hD hS ls hl
      by_cases c_25 : v = 25
      · refine lv_tableIn (tgt := 937) (off := 905) hx hb dL_law_32 (by rw [c_25]; decide) (by rw [c_25]; decide) (by rw [c_25]; decide) (by decide) ?_
        exact law_trace l hL C0 hK hN hE o_trace hi1 hi2 hi3 hi4 kont sc ar lg H locs hR hP hD hS ls hl
      refine lv_tableOut (tgt := 951) hx hb dL_law_32 (tab_out25 c_0 c_1 c_2 c_3 c_4 c_5 c_6 c_7 c_8 c_9 c_10 c_11 c_12 c_13 c_14 c_15 c_16 c_17 c_18 c_19 c_20 c_21 c_22 c_23 c_24 c_25) (by decide) ?_
      exact kont sc ar lg H locs hR hP hD hS ls hl

set_option maxHeartbeats 8000000 in
set_option maxRecDepth 100000 in
theorem law_EV {s : State} {b : Addr} (hts0 : ∀ w ∈ lw_tbl, w.before #[Value.ref b] s = true) (hgv : (Jvm.Cond.and given_1 narrow_1).before #[Value.ref b] s = true) :
    ∃ (tL tM tN : Nat) (adK adV : Nat → Nat), EV tL tM tN adK adV (fun q : Nat => s.heap.size ≤ q) s s.heap := by
  have hs := flat_of_before _ hgv
  have hA0 : ∀ a : Nat, a < s.heap.size → ¬ (fun q : Nat => s.heap.size ≤ q) a := fun a h => Nat.not_le.mpr h
  obtain ⟨tLEAST, eLEAST, hLEAST⟩ := va_Tof (tm := .static RX1 "LEAST" "[I") (ty := .int) (N := 16) (f := fun j => .int (tabLEAST j)) (by decide) (hs _ (by decide +kernel)) (va_eqt (z := Int32.ofNat 16) (hs _ (by decide +kernel))) (fun j hj => by
    rcases (show j = 0 ∨ j = 1 ∨ j = 2 ∨ j = 3 ∨ j = 4 ∨ j = 5 ∨ j = 6 ∨ j = 7 ∨ j = 8 ∨ j = 9 ∨ j = 10 ∨ j = 11 ∨ j = 12 ∨ j = 13 ∨ j = 14 ∨ j = 15 by omega) with rfl | rfl | rfl | rfl | rfl | rfl | rfl | rfl | rfl | rfl | rfl | rfl | rfl | rfl | rfl | rfl <;> exact va_eqt (hs _ (by decide +kernel))) hA0
  obtain ⟨tMOST, eMOST, hMOST⟩ := va_Tof (tm := .static RX1 "MOST" "[I") (ty := .int) (N := 16) (f := fun j => .int (tabMOST j)) (by decide) (hs _ (by decide +kernel)) (va_eqt (z := Int32.ofNat 16) (hs _ (by decide +kernel))) (fun j hj => by
    rcases (show j = 0 ∨ j = 1 ∨ j = 2 ∨ j = 3 ∨ j = 4 ∨ j = 5 ∨ j = 6 ∨ j = 7 ∨ j = 8 ∨ j = 9 ∨ j = 10 ∨ j = 11 ∨ j = 12 ∨ j = 13 ∨ j = 14 ∨ j = 15 by omega) with rfl | rfl | rfl | rfl | rfl | rfl | rfl | rfl | rfl | rfl | rfl | rfl | rfl | rfl | rfl | rfl <;> exact va_eqt (hs _ (by decide +kernel))) hA0
  obtain ⟨tNUMBERS, eNUMBERS, hNUMBERS⟩ := va_Tof (tm := .static RX1 "NUMBERS" "[I") (ty := .int) (N := 4) (f := fun j => .int (tabNUMBERS j)) (by decide) (hs _ (by decide +kernel)) (va_eqt (z := Int32.ofNat 4) (hs _ (by decide +kernel))) (fun j hj => by
    rcases (show j = 0 ∨ j = 1 ∨ j = 2 ∨ j = 3 by omega) with rfl | rfl | rfl | rfl <;> exact va_eqt (hs _ (by decide +kernel))) hA0
  have hstr := vk_Sof (args := #[Value.ref b]) (s := s) (N := 4) (tm := fun i => .string RX3 ([58, 64, 66, 68].getD i 0)) (len := lenJS) (byt := bytJS) (A := fun q : Nat => s.heap.size ≤ q) len_lt
    (fun i hi => by rcases (show i = 0 ∨ i = 1 ∨ i = 2 ∨ i = 3 by omega) with rfl | rfl | rfl | rfl <;> exact hs _ (by decide +kernel))
    (fun i hi => by rcases (show i = 0 ∨ i = 1 ∨ i = 2 ∨ i = 3 by omega) with rfl | rfl | rfl | rfl <;> exact hs _ (by decide +kernel))
    (fun i hi => by rcases (show i = 0 ∨ i = 1 ∨ i = 2 ∨ i = 3 by omega) with rfl | rfl | rfl | rfl <;> exact hs _ (by decide +kernel))
    (fun i hi => by rcases (show i = 0 ∨ i = 1 ∨ i = 2 ∨ i = 3 by omega) with rfl | rfl | rfl | rfl <;> exact hs _ (by decide +kernel))
    (fun i hi j hj => by
      rcases (show i = 0 ∨ i = 1 ∨ i = 2 ∨ i = 3 by omega) with rfl | rfl | rfl | rfl
      · have hj : j < 4 := hj
        rcases (show j = 0 ∨ j = 1 ∨ j = 2 ∨ j = 3 by omega) with rfl | rfl | rfl | rfl <;> exact hs _ (by decide +kernel)
      · have hj : j < 7 := hj
        rcases (show j = 0 ∨ j = 1 ∨ j = 2 ∨ j = 3 ∨ j = 4 ∨ j = 5 ∨ j = 6 by omega) with rfl | rfl | rfl | rfl | rfl | rfl | rfl <;> exact hs _ (by decide +kernel)
      · have hj : j < 5 := hj
        rcases (show j = 0 ∨ j = 1 ∨ j = 2 ∨ j = 3 ∨ j = 4 by omega) with rfl | rfl | rfl | rfl | rfl <;> exact hs _ (by decide +kernel)
      · have hj : j < 5 := hj
        rcases (show j = 0 ∨ j = 1 ∨ j = 2 ∨ j = 3 ∨ j = 4 by omega) with rfl | rfl | rfl | rfl | rfl <;> exact hs _ (by decide +kernel))
    (fun i j hi hj hne => by
      rcases (show i = 0 ∨ i = 1 ∨ i = 2 ∨ i = 3 by omega) with rfl | rfl | rfl | rfl <;> rcases (show j = 0 ∨ j = 1 ∨ j = 2 ∨ j = 3 by omega) with rfl | rfl | rfl | rfl <;> first | exact absurd rfl hne | exact Or.inl (hs _ (by decide +kernel)) | exact Or.inr (hs _ (by decide +kernel))) hA0
  obtain ⟨adK, adV, hS4, hev⟩ := hstr
  exact ⟨tLEAST, tMOST, tNUMBERS, adK, adV, ⟨va_Zof (hts0 (.laysStatic RX1 "LEAST" "[I") (by decide +kernel)) (hts0 (.initialized RX1) (by decide +kernel)) eLEAST hA0, hLEAST⟩, ⟨va_Zof (hts0 (.laysStatic RX1 "MOST" "[I") (by decide +kernel)) (hts0 (.initialized RX1) (by decide +kernel)) eMOST hA0, hMOST⟩, ⟨va_Zof (hts0 (.laysStatic RX1 "NUMBERS" "[I") (by decide +kernel)) (hts0 (.initialized RX1) (by decide +kernel)) eNUMBERS hA0, hNUMBERS⟩, va_Zof (hts0 (.laysStatic "java/lang/String" "COMPACT_STRINGS" "Z") (by decide +kernel)) (hts0 (.initialized "java/lang/String") (by decide +kernel)) (va_eqi (hs _ (by decide +kernel))) hA0, va_Zqof (hts0 (.laysStatic "jdk/internal/util/Preconditions" "SIOOBE_FORMATTER" "Ljava/util/function/BiFunction;") (by decide +kernel)) (hts0 (.initialized "jdk/internal/util/Preconditions") (by decide +kernel)) (hs _ (by decide +kernel)) hA0, hS4,
    vk_R.of (hts0 (.stringRef RX3 58 "dish") (by decide +kernel)) (hev 0 (by decide)), vk_R.of (hts0 (.stringRef RX3 64 "speaker") (by decide +kernel)) (hev 1 (by decide)), vk_R.of (hts0 (.stringRef RX3 66 "noise") (by decide +kernel)) (hev 2 (by decide)), vk_R.of (hts0 (.stringRef RX3 68 "asker") (by decide +kernel)) (hev 3 (by decide))⟩

theorem law_NW {s : State} {b : Addr} (hts0 : ∀ w ∈ lw_tbl, w.before #[Value.ref b] s = true) : NW s :=
  ⟨va_Nw.of rfl (hts0 (.methodLinkNest RX3 31 yX5_put RX5) (by decide +kernel)), va_Nw.of rfl (hts0 (.methodLinkNest RX3 35 yX5_at RX5) (by decide +kernel)), va_Nw.of rfl (hts0 (.methodLinkNest RX1 52 yX5_at RX5) (by decide +kernel)), va_Nw.of rfl (hts0 (.methodLinkNest RX1 63 yX5_put RX5) (by decide +kernel)), va_Nw.of rfl (hts0 (.methodLinkNest RX2 44 yX5_put RX5) (by decide +kernel)), va_Nw.of rfl (hts0 (.methodLinkNest RX2 40 yX5_at RX5) (by decide +kernel))⟩

theorem law_K {s : State} {b : Addr} (hts0 : ∀ w ∈ lw_tbl, w.before #[Value.ref b] s = true) : ∃ (dC : Nat → ClassId) (dI : Nat → Nat → Nat) (cI cZ : ClassId), va_K (dC, dI) vwCl [(cI, .int), (cZ, .boolean)] s := by
  obtain ⟨c0, i0, hKn0⟩ := u_known (C := RX0) (T := TX0) (N := 4) (n := 4) hts0 inX0 (hts0 (.instantiable RX0 4) (by decide +kernel))
  obtain ⟨c1, i1, hKn1⟩ := u_known (C := RX1) (T := TX1) (N := 1) (n := 1) hts0 inX1 (hts0 (.instantiable RX1 1) (by decide +kernel))
  obtain ⟨c2, i2, hKn2⟩ := u_known (C := RX2) (T := TX2) (N := 3) (n := 3) hts0 inX2 (hts0 (.instantiable RX2 3) (by decide +kernel))
  obtain ⟨c3, i3, hKn3⟩ := u_known (C := RX3) (T := TX3) (N := 6) (n := 6) hts0 inX3 (hts0 (.instantiable RX3 6) (by decide +kernel))
  obtain ⟨c4, i4, hKn4⟩ := u_known (C := RX4) (T := TX4) (N := 4) (n := 4) hts0 inX4 (hts0 (.instantiable RX4 4) (by decide +kernel))
  obtain ⟨c5, i5, hKn5⟩ := u_known (C := RX5) (T := TX5) (N := 11) (n := 11) hts0 inX5 (hts0 (.instantiable RX5 11) (by decide +kernel))
  obtain ⟨c6, i6, hKn6⟩ := u_known (C := RX6) (T := TX6) (N := 30) (n := 30) hts0 inX6 (hts0 (.instantiable RX6 30) (by decide +kernel))
  obtain ⟨cI, kI, oI, fI, gI, hI⟩ := Cond.arrayClass_spec (hts0 (.arrayClass .int) (by decide +kernel))
  obtain ⟨cZ, kZ, oZ, fZ, gZ, hZ⟩ := Cond.arrayClass_spec (hts0 (.arrayClass .boolean) (by decide +kernel))
  refine ⟨fun k => if k = 0 then c0 else if k = 1 then c1 else if k = 2 then c2 else if k = 3 then c3 else if k = 4 then c4 else if k = 5 then c5 else c6, fun k => if k = 0 then i0 else if k = 1 then i1 else if k = 2 then i2 else if k = 3 then i3 else if k = 4 then i4 else if k = 5 then i5 else i6, cI, cZ, ?_, ?_⟩
  · intro k q hq
    match k, hq with
    | 0, hq => cases hq; exact hKn0
    | 1, hq => cases hq; exact hKn1
    | 2, hq => cases hq; exact hKn2
    | 3, hq => cases hq; exact hKn3
    | 4, hq => cases hq; exact hKn4
    | 5, hq => cases hq; exact hKn5
    | 6, hq => cases hq; exact hKn6
    | k + 7, hq => simp [vwCl] at hq
  · intro k q hq
    match k, hq with
    | 0, hq => cases hq; exact ⟨fun n z => ⟨fun k h => (by cases h), kI, gI, oI, hI⟩, fI⟩
    | 1, hq => cases hq; exact ⟨fun n z => ⟨fun k h => (by cases h), kZ, gZ, oZ, hZ⟩, fZ⟩
    | k + 2, hq => simp at hq

def sc0 : Nat → Int32 := fun k => ([0, (if 12 < (5 : Int32) then 12 else (5 : Int32)), 0, (if 12 < (5 : Int32) then 12 else (5 : Int32)), 0, (if 12 < (3 : Int32) then 12 else (3 : Int32)), 0, (if 12 < (5 : Int32) then 12 else (5 : Int32)), 0, (if 12 < (12 : Int32) then 12 else (12 : Int32)), 0, (if 12 < (10 : Int32) then 12 else (10 : Int32)), 0, (if 12 < (5 : Int32) then 12 else (5 : Int32)), 0, (if 12 < (10 : Int32) then 12 else (10 : Int32)), 0, (if 12 < (12 : Int32) then 12 else (12 : Int32)), 0, (if 12 < (10 : Int32) then 12 else (10 : Int32)), 0, (if 12 < (5 : Int32) then 12 else (5 : Int32)), 0, (if 12 < (10 : Int32) then 12 else (10 : Int32)), 0, (if 12 < (12 : Int32) then 12 else (12 : Int32)), 0, (if 12 < (10 : Int32) then 12 else (10 : Int32)), 0, (if 12 < (5 : Int32) then 12 else (5 : Int32)), 0, (if 12 < (10 : Int32) then 12 else (10 : Int32)), 0, 0, 0, 0, 6, 0, (if 12 < (5 : Int32) then 12 else (5 : Int32)), 0, (if 12 < (5 : Int32) then 12 else (5 : Int32)), 0, (if 12 < (3 : Int32) then 12 else (3 : Int32)), 0, (if 12 < (5 : Int32) then 12 else (5 : Int32)), 0, 0, 0, 0, 0, 0, 0, 0, 0, 0, 0, 0, 0, 0, 0, 0, 0] : List Int32).getD k 0
def ar0 : Nat → Nat → Int32 := fun _ _ => 0
def lg0 : Nat → Int64 := fun _ => 0
