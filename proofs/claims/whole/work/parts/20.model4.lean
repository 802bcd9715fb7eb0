-- SkyListenersModel.turn
def f_X6_turn (d_dishes : Int32) (d_st : Nat → Int32) (x1 : Int32) (x2 : Int32) : Option (Int32 × (Nat → Int32)) := (if (f_X6_isDish d_dishes x1) = 0 then (some ((-1), d_st)) else (if (f_X6_in x2 0 7) = 0 then (some ((-1), d_st)) else (if (3 + x1) < 0 ∨ 104 ≤ (3 + x1).toNatClampNeg then none else (if (d_st (3 + x1).toNatClampNeg) = x2 then (some ((-2), d_st)) else ((f_X6_known d_st x1 (d_st (3 + x1).toNatClampNeg)).bind fun q40 => (if (3 + x1) < 0 ∨ 104 ≤ (3 + x1).toNatClampNeg then none else (some (d_st (3 + x1).toNatClampNeg, upd q40 (3 + x1).toNatClampNeg x2))))))))
set_option maxHeartbeats 4000000 in
set_option maxRecDepth 100000 in
theorem c_X6_turn (l : Launch) (dC : Nat → ClassId) (dI : Nat → Nat → Nat) (cI cZ : ClassId) (sz : Nat) (p_asker p_images p_isKept p_noise p_room p_saidAsker p_saidMount p_saidNoise p_saidSpeaker p_speaker p_st p_text p_this : Nat) (d_dishes : Int32) (d_speakers : Int32) (d_noises : Int32) (d_askers : Int32) (d_trace : Int64) (d_texted : Int32) (d_cursor : Int32) (d_start : Int32) (d_token : Int32) (d_number : Int32) (d_word : Int64) (d_isWrong : Int32) (d_saidDishes : Int32) (d_saidSpeakers : Int32) (d_saidNoises : Int32) (d_saidAskers : Int32) (d_couldBe : Int32) (d_couldHere : Int32) (d_st : Nat → Int32) (x1 : Int32) (x2 : Int32) (out : Int32 × (Nat → Int32)) (hrun : f_X6_turn d_dishes d_st x1 x2 = some out) : Met l yX6_turn wsX6_turn ({ frames := 2, cells := 0, slots := 0, locals := 43 } : Room) (va_Pc [.ref p_this, .int x1, .int x2] (PC dC dI cI cZ sz ([(p_this, .inr (6, [.int d_dishes, .int d_speakers, .ref p_speaker, .int d_noises, .ref p_noise, .int d_askers, .ref p_asker, .ref p_st, .ref p_images, .ref p_isKept, .long d_trace, .ref p_text, .int d_texted, .int d_cursor, .int d_start, .int d_token, .int d_number, .long d_word, .int d_isWrong, .int d_saidDishes, .ref p_saidMount, .int d_saidSpeakers, .ref p_saidSpeaker, .int d_saidNoises, .ref p_saidNoise, .int d_saidAskers, .ref p_saidAsker, .ref p_room, .int d_couldBe, .int d_couldHere])), (p_st, .inl (cI, 104, .inl d_st))] : va_W))) (va_Qi (fun r (_ : Unit) => r = out.1) (fun _ t => va_P (dC, dI) vwCl [(p_this, .inr (6, [.int d_dishes, .int d_speakers, .ref p_speaker, .int d_noises, .ref p_noise, .int d_askers, .ref p_asker, .ref p_st, .ref p_images, .ref p_isKept, .long d_trace, .ref p_text, .int d_texted, .int d_cursor, .int d_start, .int d_token, .int d_number, .long d_word, .int d_isWrong, .int d_saidDishes, .ref p_saidMount, .int d_saidSpeakers, .ref p_saidSpeaker, .int d_saidNoises, .ref p_saidNoise, .int d_saidAskers, .ref p_saidAsker, .ref p_room, .int d_couldBe, .int d_couldHere])), (p_st, .inl (cI, 104, .inl out.2))] t.heap ∧ va_D (va_A ([(p_this, .inr (6, [.int d_dishes, .int d_speakers, .ref p_speaker, .int d_noises, .ref p_noise, .int d_askers, .ref p_asker, .ref p_st, .ref p_images, .ref p_isKept, .long d_trace, .ref p_text, .int d_texted, .int d_cursor, .int d_start, .int d_token, .int d_number, .long d_word, .int d_isWrong, .int d_saidDishes, .ref p_saidMount, .int d_saidSpeakers, .ref p_saidSpeaker, .int d_saidNoises, .ref p_saidNoise, .int d_saidAskers, .ref p_saidAsker, .ref p_room, .int d_couldBe, .int d_couldHere])), (p_st, .inl (cI, 104, .inl d_st))] : va_W) sz) [(p_this, .inr (6, [.int d_dishes, .int d_speakers, .ref p_speaker, .int d_noises, .ref p_noise, .int d_askers, .ref p_asker, .ref p_st, .ref p_images, .ref p_isKept, .long d_trace, .ref p_text, .int d_texted, .int d_cursor, .int d_start, .int d_token, .int d_number, .long d_word, .int d_isWrong, .int d_saidDishes, .ref p_saidMount, .int d_saidSpeakers, .ref p_saidSpeaker, .int d_saidNoises, .ref p_saidNoise, .int d_saidAskers, .ref p_saidAsker, .ref p_room, .int d_couldBe, .int d_couldHere])), (p_st, .inl (cI, 104, .inl out.2))]) (va_A ([(p_this, .inr (6, [.int d_dishes, .int d_speakers, .ref p_speaker, .int d_noises, .ref p_noise, .int d_askers, .ref p_asker, .ref p_st, .ref p_images, .ref p_isKept, .long d_trace, .ref p_text, .int d_texted, .int d_cursor, .int d_start, .int d_token, .int d_number, .long d_word, .int d_isWrong, .int d_saidDishes, .ref p_saidMount, .int d_saidSpeakers, .ref p_saidSpeaker, .int d_saidNoises, .ref p_saidNoise, .int d_saidAskers, .ref p_saidAsker, .ref p_room, .int d_couldBe, .int d_couldHere])), (p_st, .inl (cI, 104, .inl d_st))] : va_W) sz)) 0 0 (va_A ([(p_this, .inr (6, [.int d_dishes, .int d_speakers, .ref p_speaker, .int d_noises, .ref p_noise, .int d_askers, .ref p_asker, .ref p_st, .ref p_images, .ref p_isKept, .long d_trace, .ref p_text, .int d_texted, .int d_cursor, .int d_start, .int d_token, .int d_number, .long d_word, .int d_isWrong, .int d_saidDishes, .ref p_saidMount, .int d_saidSpeakers, .ref p_saidSpeaker, .int d_saidNoises, .ref p_saidNoise, .int d_saidAskers, .ref p_saidAsker, .ref p_room, .int d_couldBe, .int d_couldHere])), (p_st, .inl (cI, 104, .inl d_st))] : va_W) sz) := by
  refine Met.ofW (cc := cX6_turn) (maxL := 4) (ret := (some .int)) (by decide) rfl ?_
  intro p e s m args below meth c s₁ B hml hv
  obtain ⟨rfl, hsz, hP, hK, hD0, hN⟩ := hv
  have hx := B.exec
  have hb := B.bytes
  have hr := B.returns
  have hts := atoms_spec (ws := wsX6_turn) B.pre
  have hown : s.vm.findClass RX6 = some m.cls := findClass_of_methodNamed B.named
  have hlocks := B.notSynchronized
  subst hsz
  have hD := hD0.self (sz := s.heap.size)
  generalize hAe : va_A ([(p_this, .inr (6, [.int d_dishes, .int d_speakers, .ref p_speaker, .int d_noises, .ref p_noise, .int d_askers, .ref p_asker, .ref p_st, .ref p_images, .ref p_isKept, .long d_trace, .ref p_text, .int d_texted, .int d_cursor, .int d_start, .int d_token, .int d_number, .long d_word, .int d_isWrong, .int d_saidDishes, .ref p_saidMount, .int d_saidSpeakers, .ref p_saidSpeaker, .int d_saidNoises, .ref p_saidNoise, .int d_saidAskers, .ref p_saidAsker, .ref p_room, .int d_couldBe, .int d_couldHere])), (p_st, .inl (cI, 104, .inl d_st))] : va_W) s.heap.size = A at hD ⊢
  have hA : ∀ q : Nat, s.heap.size ≤ q → A q := fun q h => by rw [← hAe]; exact Or.inr h
  have hS : va_S A s.heap s.heap [] := va_S.rf
  refine W_abs (fun Q hQ => ?_)
  have hl := lv_entry ([.ref p_this, .int x1, .int x2]) (n := 4) (Nat.le_of_ble_eq_true rfl)
  rw [lg_entry_eq]
  generalize (lg_sl ([.ref p_this, .int x1, .int x2]) ++ List.replicate (4 - (lg_sl ([.ref p_this, .int x1, .int x2])).length) Slot.unset).toArray = ls at hl ⊢
  have hl : lv_has ls 4 [(0, .ref p_this), (1, .int x1), (2, .int x2)] := hl
  rw [f_X6_turn] at hrun
  refine W_start (ws := [(p_this, .inr (6, [.int d_dishes, .int d_speakers, .ref p_speaker, .int d_noises, .ref p_noise, .int d_askers, .ref p_asker, .ref p_st, .ref p_images, .ref p_isKept, .long d_trace, .ref p_text, .int d_texted, .int d_cursor, .int d_start, .int d_token, .int d_number, .long d_word, .int d_isWrong, .int d_saidDishes, .ref p_saidMount, .int d_saidSpeakers, .ref p_saidSpeaker, .int d_saidNoises, .ref p_saidNoise, .int d_saidAskers, .ref p_saidAsker, .ref p_room, .int d_couldBe, .int d_couldHere])), (p_st, .inl (cI, 104, .inl d_st))]) hP hS (fun H locs hP hS => ?_)
  have iwX6 : ∀ w ∈ wsX60, w ∈ wsX6_turn := by decide +kernel
  refine lv_aload_n hx hb dX6_turn_0 rfl (lv_at hl 0 rfl) ?_
  refine lv_iload_n hx hb dX6_turn_1 rfl (lv_at hl 1 rfl) ?_
  have hPc : va_P (dC, dI) vwCl [(p_this, .inr (6, [.int d_dishes, .int d_speakers, .ref p_speaker, .int d_noises, .ref p_noise, .int d_askers, .ref p_asker, .ref p_st, .ref p_images, .ref p_isKept, .long d_trace, .ref p_text, .int d_texted, .int d_cursor, .int d_start, .int d_token, .int d_number, .long d_word, .int d_isWrong, .int d_saidDishes, .ref p_saidMount, .int d_saidSpeakers, .ref p_saidSpeaker, .int d_saidNoises, .ref p_saidNoise, .int d_saidAskers, .ref p_saidAsker, .ref p_room, .int d_couldBe, .int d_couldHere]))] H := hP.sub [0] rfl
  have hDc : va_D A [(p_this, .inr (6, [.int d_dishes, .int d_speakers, .ref p_speaker, .int d_noises, .ref p_noise, .int d_askers, .ref p_asker, .ref p_st, .ref p_images, .ref p_isKept, .long d_trace, .ref p_text, .int d_texted, .int d_cursor, .int d_start, .int d_token, .int d_number, .long d_word, .int d_isWrong, .int d_saidDishes, .ref p_saidMount, .int d_saidSpeakers, .ref p_saidSpeaker, .int d_saidNoises, .ref p_saidNoise, .int d_saidAskers, .ref p_saidAsker, .ref p_room, .int d_couldBe, .int d_couldHere]))] := hD.sub [0] (by decide) rfl
  have hFc := va_free (wc := [(p_this, .inr (6, [.int d_dishes, .int d_speakers, .ref p_speaker, .int d_noises, .ref p_noise, .int d_askers, .ref p_asker, .ref p_st, .ref p_images, .ref p_isKept, .long d_trace, .ref p_text, .int d_texted, .int d_cursor, .int d_start, .int d_token, .int d_number, .long d_word, .int d_isWrong, .int d_saidDishes, .ref p_saidMount, .int d_saidSpeakers, .ref p_saidSpeaker, .int d_saidNoises, .ref p_saidNoise, .int d_saidAskers, .ref p_saidAsker, .ref p_room, .int d_couldBe, .int d_couldHere]))]) hD hS hA [0] rfl
  refine va_calli (va_runV (As := [.int x1]) (rest := []) ⟨hx, hb, hml, hown, hts⟩ (c_X6_isDish l dC dI cI cZ H.size p_asker p_images p_isKept p_noise p_room p_saidAsker p_saidMount p_saidNoise p_saidSpeaker p_speaker p_st p_text p_this d_dishes d_speakers d_noises d_askers d_trace d_texted d_cursor d_start d_token d_number d_word d_isWrong d_saidDishes d_saidSpeakers d_saidNoises d_saidAskers d_couldBe d_couldHere x1 (f_X6_isDish d_dishes x1) rfl) (cwV 1 hts gX6_turn_X6_isDish rfl rfl rfl (by decide +kernel) ⟨Nat.le_of_ble_eq_true rfl, Nat.le_of_ble_eq_true rfl⟩) ⟨fun a U g mk q => ⟨q.1, PC.mv q.2⟩, va_recv hK hP (ci := 6) (q0 := 0) rfl rfl, fun U hU hW => ⟨rfl, PC.of hU hW hPc hK hDc hN⟩⟩ rfl rfl hl.1 rfl (lv_room (Nat.le_of_ble_eq_true rfl)) dX6_turn_2 ⟨Nat.zero_le _, Nat.zero_le _⟩) hS (fun q _ h => hFc q h) hFc (fun r_2 u t H1 locs ht hvm hw hB hz1 hk1 hS => ?_)
  obtain ⟨hP1, hD1⟩ := hB
  try dsimp only at hw
  rw [hw]
  rw [ht] at hP1
  have hP : va_P (dC, dI) vwCl [(p_this, .inr (6, [.int d_dishes, .int d_speakers, .ref p_speaker, .int d_noises, .ref p_noise, .int d_askers, .ref p_asker, .ref p_st, .ref p_images, .ref p_isKept, .long d_trace, .ref p_text, .int d_texted, .int d_cursor, .int d_start, .int d_token, .int d_number, .long d_word, .int d_isWrong, .int d_saidDishes, .ref p_saidMount, .int d_saidSpeakers, .ref p_saidSpeaker, .int d_saidNoises, .ref p_saidNoise, .int d_saidAskers, .ref p_saidAsker, .ref p_room, .int d_couldBe, .int d_couldHere])), (p_st, .inl (cI, 104, .inl d_st))] H1 := join_ro hP hD [0] rfl hk1 hP1
  clear hPc hDc hFc hk1 hz1 hP1 hD1 ht hvm
  generalize H1 = H at hP hS ⊢
  refine lv_if_eq (tgt := 18) hx hb dX6_turn_5 (by decide) (fun c_5 => ?_) (fun c_5 => ?_)
  · rw [if_pos c_5] at hrun
    refine lv_iconst (v := (-1)) hx hb dX6_turn_18 (by decide) ?_
    have hrun := Option.some.inj hrun
    subst hrun
    rw [hQ]
    exact W.iret (v := (-1)) hx hb hr (fun t ht hW => ⟨⟨(-1), (), rfl, rfl, by rw [ht]; exact hP, hD⟩, hS.F ht⟩) hS.2.2 dX6_turn_19
  · rw [if_neg c_5] at hrun
    refine lv_iload_n hx hb dX6_turn_8 rfl (lv_at hl 2 rfl) ?_
    refine lv_iconst (v := 0) hx hb dX6_turn_9 (by decide) ?_
    refine lv_bipush (v := 7) hx hb dX6_turn_10 (by decide) ?_
    have hPc : va_P (dC, dI) vwCl [] H := hP.sub [] rfl
    have hDc : va_D A [] := hD.sub [] (by decide) rfl
    have hFc := va_free (wc := []) hD hS hA [] rfl
    refine va_calli (va_runS (As := [.int x2, .int 0, .int 7]) (rest := []) ⟨hx, hb, hml, hown, hts⟩ (c_X6_in l dC dI cI cZ H.size x2 0 7 (f_X6_in x2 0 7) rfl) (va_cwS 3 hts gX6_turn_X6_in rfl rfl rfl (by decide +kernel) ⟨Nat.le_of_ble_eq_true rfl, Nat.le_of_ble_eq_true rfl⟩) ⟨fun a U g mk q => ⟨q.1, PC.mv q.2⟩, fun U hU hW => ⟨rfl, PC.of hU hW hPc hK hDc hN⟩⟩ rfl rfl hl.1 rfl (lv_room (Nat.le_of_ble_eq_true rfl)) dX6_turn_12 ⟨Nat.zero_le _, Nat.zero_le _⟩) hS (fun q _ h => hFc q h) hFc (fun r_12 u t H1 locs ht hvm hw hB hz1 hk1 hS => ?_)
    obtain ⟨hP1, hD1⟩ := hB
    try dsimp only at hw
    rw [hw]
    rw [ht] at hP1
    have hP : va_P (dC, dI) vwCl [(p_this, .inr (6, [.int d_dishes, .int d_speakers, .ref p_speaker, .int d_noises, .ref p_noise, .int d_askers, .ref p_asker, .ref p_st, .ref p_images, .ref p_isKept, .long d_trace, .ref p_text, .int d_texted, .int d_cursor, .int d_start, .int d_token, .int d_number, .long d_word, .int d_isWrong, .int d_saidDishes, .ref p_saidMount, .int d_saidSpeakers, .ref p_saidSpeaker, .int d_saidNoises, .ref p_saidNoise, .int d_saidAskers, .ref p_saidAsker, .ref p_room, .int d_couldBe, .int d_couldHere])), (p_st, .inl (cI, 104, .inl d_st))] H1 := join_ro hP hD [] rfl hk1 hP1
    clear hPc hDc hFc hk1 hz1 hP1 hD1 ht hvm
    generalize H1 = H at hP hS ⊢
    refine lv_if_ne (tgt := 20) hx hb dX6_turn_15 (by decide) (fun c_15 => ?_) (fun c_15 => ?_)
    · rw [if_neg c_15] at hrun
      refine lv_aload_n hx hb dX6_turn_20 rfl (lv_at hl 0 rfl) ?_
      refine va_get (D := (dC, dI)) (ci := 6) (v := .ref p_st) (C := RX6) (T := TX6) (N := 30) hx hb hts iwX6 hown hK hP 0 rfl rfl 7 (by decide) (hts (.fieldLink RX6 19 "SkyListenersModel" "st" "[I") (by decide +kernel)) (fun _ h9 => h9) rfl dX6_turn_21 ?_
      refine lv_iconst (v := 3) hx hb dX6_turn_24 (by decide) ?_
      refine lv_iload_n hx hb dX6_turn_25 rfl (lv_at hl 1 rfl) ?_
      refine lv_iadd hx hb dX6_turn_26 ?_
      rcases Classical.em ((3 + x1) < 0 ∨ 104 ≤ (3 + x1).toNatClampNeg) with g_27 | g_27
      · rw [if_pos g_27] at hrun; cases hrun
      rw [if_neg g_27] at hrun
      refine va_iald hx hb hK hP 1 0 rfl rfl g_27 dX6_turn_27 ?_
      refine lv_istore_n (lv' := [(3, .int (d_st (3 + x1).toNatClampNeg)), (0, .ref p_this), (1, .int x1), (2, .int x2)]) hx hb dX6_turn_28 rfl hl (by decide) rfl (fun ls hl => ?_)
      refine lv_iload_n hx hb dX6_turn_29 rfl (lv_at hl 0 rfl) ?_
      refine lv_iload_n hx hb dX6_turn_30 rfl (lv_at hl 3 rfl) ?_
      refine lv_icmp_ne (tgt := 37) hx hb dX6_turn_31 (by decide) (fun c_31 => ?_) (fun c_31 => ?_)
      · rw [if_neg c_31] at hrun
        refine lv_aload_n hx hb dX6_turn_37 rfl (lv_at hl 1 rfl) ?_
        refine lv_iload_n hx hb dX6_turn_38 rfl (lv_at hl 2 rfl) ?_
        refine lv_iload_n hx hb dX6_turn_39 rfl (lv_at hl 0 rfl) ?_
        obtain ⟨q40, hq40, hrun⟩ := bind_out hrun
        have hPc : va_P (dC, dI) vwCl [(p_this, .inr (6, [.int d_dishes, .int d_speakers, .ref p_speaker, .int d_noises, .ref p_noise, .int d_askers, .ref p_asker, .ref p_st, .ref p_images, .ref p_isKept, .long d_trace, .ref p_text, .int d_texted, .int d_cursor, .int d_start, .int d_token, .int d_number, .long d_word, .int d_isWrong, .int d_saidDishes, .ref p_saidMount, .int d_saidSpeakers, .ref p_saidSpeaker, .int d_saidNoises, .ref p_saidNoise, .int d_saidAskers, .ref p_saidAsker, .ref p_room, .int d_couldBe, .int d_couldHere])), (p_st, .inl (cI, 104, .inl d_st))] H := hP.sub [0, 1] rfl
        have hDc : va_D A [(p_this, .inr (6, [.int d_dishes, .int d_speakers, .ref p_speaker, .int d_noises, .ref p_noise, .int d_askers, .ref p_asker, .ref p_st, .ref p_images, .ref p_isKept, .long d_trace, .ref p_text, .int d_texted, .int d_cursor, .int d_start, .int d_token, .int d_number, .long d_word, .int d_isWrong, .int d_saidDishes, .ref p_saidMount, .int d_saidSpeakers, .ref p_saidSpeaker, .int d_saidNoises, .ref p_saidNoise, .int d_saidAskers, .ref p_saidAsker, .ref p_room, .int d_couldBe, .int d_couldHere])), (p_st, .inl (cI, 104, .inl d_st))] := hD.sub [0, 1] (by decide) rfl
        have hFc := va_free (wc := [(p_this, .inr (6, [.int d_dishes, .int d_speakers, .ref p_speaker, .int d_noises, .ref p_noise, .int d_askers, .ref p_asker, .ref p_st, .ref p_images, .ref p_isKept, .long d_trace, .ref p_text, .int d_texted, .int d_cursor, .int d_start, .int d_token, .int d_number, .long d_word, .int d_isWrong, .int d_saidDishes, .ref p_saidMount, .int d_saidSpeakers, .ref p_saidSpeaker, .int d_saidNoises, .ref p_saidNoise, .int d_saidAskers, .ref p_saidAsker, .ref p_room, .int d_couldBe, .int d_couldHere])), (p_st, .inl (cI, 104, .inl d_st))]) hD hS hA [0, 1] rfl
        refine va_callv (va_runV (As := [.int x1, .int (d_st (3 + x1).toNatClampNeg)]) (rest := []) ⟨hx, hb, hml, hown, hts⟩ (c_X6_known l dC dI cI cZ H.size p_asker p_images p_isKept p_noise p_room p_saidAsker p_saidMount p_saidNoise p_saidSpeaker p_speaker p_st p_text p_this d_dishes d_speakers d_noises d_askers d_trace d_texted d_cursor d_start d_token d_number d_word d_isWrong d_saidDishes d_saidSpeakers d_saidNoises d_saidAskers d_couldBe d_couldHere d_st x1 (d_st (3 + x1).toNatClampNeg) q40 hq40) (cwV 2 hts gX6_turn_X6_known rfl rfl rfl (by decide +kernel) ⟨Nat.le_of_ble_eq_true rfl, Nat.le_of_ble_eq_true rfl⟩) ⟨fun a U g mk q => ⟨q.1, PC.mv q.2⟩, va_recv hK hP (ci := 6) (q0 := 0) rfl rfl, fun U hU hW => ⟨rfl, PC.of hU hW hPc hK hDc hN⟩⟩ rfl rfl hl.1 rfl (lv_room (Nat.le_of_ble_eq_true rfl)) dX6_turn_40 ⟨Nat.zero_le _, Nat.zero_le _⟩) hS (fun q _ h => hFc q h) hFc (fun u t H1 locs ht hvm hw hB hz1 hk1 hS => ?_)
        obtain ⟨hP1, hD1⟩ := hB
        rw [ht] at hP1
        obtain ⟨hP, hD⟩ := va_join (wr := []) (w1 := [(p_this, .inr (6, [.int d_dishes, .int d_speakers, .ref p_speaker, .int d_noises, .ref p_noise, .int d_askers, .ref p_asker, .ref p_st, .ref p_images, .ref p_isKept, .long d_trace, .ref p_text, .int d_texted, .int d_cursor, .int d_start, .int d_token, .int d_number, .long d_word, .int d_isWrong, .int d_saidDishes, .ref p_saidMount, .int d_saidSpeakers, .ref p_saidSpeaker, .int d_saidNoises, .ref p_saidNoise, .int d_saidAskers, .ref p_saidAsker, .ref p_room, .int d_couldBe, .int d_couldHere])), (p_st, .inl (cI, 104, .inl q40))]) hP hD [0, 1] [] rfl rfl (by decide) (by decide) hk1 hFc hP1 hD1
        have hP : va_P (dC, dI) vwCl [(p_this, .inr (6, [.int d_dishes, .int d_speakers, .ref p_speaker, .int d_noises, .ref p_noise, .int d_askers, .ref p_asker, .ref p_st, .ref p_images, .ref p_isKept, .long d_trace, .ref p_text, .int d_texted, .int d_cursor, .int d_start, .int d_token, .int d_number, .long d_word, .int d_isWrong, .int d_saidDishes, .ref p_saidMount, .int d_saidSpeakers, .ref p_saidSpeaker, .int d_saidNoises, .ref p_saidNoise, .int d_saidAskers, .ref p_saidAsker, .ref p_room, .int d_couldBe, .int d_couldHere])), (p_st, .inl (cI, 104, .inl q40))] H1 := hP.sub [0, 1] rfl
        have hD : va_D A [(p_this, .inr (6, [.int d_dishes, .int d_speakers, .ref p_speaker, .int d_noises, .ref p_noise, .int d_askers, .ref p_asker, .ref p_st, .ref p_images, .ref p_isKept, .long d_trace, .ref p_text, .int d_texted, .int d_cursor, .int d_start, .int d_token, .int d_number, .long d_word, .int d_isWrong, .int d_saidDishes, .ref p_saidMount, .int d_saidSpeakers, .ref p_saidSpeaker, .int d_saidNoises, .ref p_saidNoise, .int d_saidAskers, .ref p_saidAsker, .ref p_room, .int d_couldBe, .int d_couldHere])), (p_st, .inl (cI, 104, .inl q40))] := hD.sub [0, 1] (by decide) rfl
        clear hPc hDc hFc hk1 hz1 hP1 hD1 ht hvm
        generalize H1 = H at hP hS ⊢
        refine lv_aload_n hx hb dX6_turn_43 rfl (lv_at hl 1 rfl) ?_
        refine va_get (D := (dC, dI)) (ci := 6) (v := .ref p_st) (C := RX6) (T := TX6) (N := 30) hx hb hts iwX6 hown hK hP 0 rfl rfl 7 (by decide) (hts (.fieldLink RX6 19 "SkyListenersModel" "st" "[I") (by decide +kernel)) (fun _ h9 => h9) rfl dX6_turn_44 ?_
        refine lv_iconst (v := 3) hx hb dX6_turn_47 (by decide) ?_
        refine lv_iload_n hx hb dX6_turn_48 rfl (lv_at hl 2 rfl) ?_
        refine lv_iadd hx hb dX6_turn_49 ?_
        refine lv_iload_n hx hb dX6_turn_50 rfl (lv_at hl 3 rfl) ?_
        rcases Classical.em ((3 + x1) < 0 ∨ 104 ≤ (3 + x1).toNatClampNeg) with g_51 | g_51
        · rw [if_pos g_51] at hrun; cases hrun
        rw [if_neg g_51] at hrun
        refine va_iast hx hb hK hP hD hS 1 0 rfl rfl g_51 dX6_turn_51 (fun H locs hP hD hS => ?_)
        have hP : va_P (dC, dI) vwCl [(p_this, .inr (6, [.int d_dishes, .int d_speakers, .ref p_speaker, .int d_noises, .ref p_noise, .int d_askers, .ref p_asker, .ref p_st, .ref p_images, .ref p_isKept, .long d_trace, .ref p_text, .int d_texted, .int d_cursor, .int d_start, .int d_token, .int d_number, .long d_word, .int d_isWrong, .int d_saidDishes, .ref p_saidMount, .int d_saidSpeakers, .ref p_saidSpeaker, .int d_saidNoises, .ref p_saidNoise, .int d_saidAskers, .ref p_saidAsker, .ref p_room, .int d_couldBe, .int d_couldHere])), (p_st, .inl (cI, 104, .inl (upd q40 (3 + x1).toNatClampNeg x2)))] H := hP
        have hD : va_D A [(p_this, .inr (6, [.int d_dishes, .int d_speakers, .ref p_speaker, .int d_noises, .ref p_noise, .int d_askers, .ref p_asker, .ref p_st, .ref p_images, .ref p_isKept, .long d_trace, .ref p_text, .int d_texted, .int d_cursor, .int d_start, .int d_token, .int d_number, .long d_word, .int d_isWrong, .int d_saidDishes, .ref p_saidMount, .int d_saidSpeakers, .ref p_saidSpeaker, .int d_saidNoises, .ref p_saidNoise, .int d_saidAskers, .ref p_saidAsker, .ref p_room, .int d_couldBe, .int d_couldHere])), (p_st, .inl (cI, 104, .inl (upd q40 (3 + x1).toNatClampNeg x2)))] := hD
        refine lv_iload_n hx hb dX6_turn_52 rfl (lv_at hl 0 rfl) ?_
        have hrun := Option.some.inj hrun
        subst hrun
        rw [hQ]
        exact W.iret (v := d_st (3 + x1).toNatClampNeg) hx hb hr (fun t ht hW => ⟨⟨d_st (3 + x1).toNatClampNeg, (), rfl, rfl, by rw [ht]; exact hP, hD⟩, hS.F ht⟩) hS.2.2 dX6_turn_53
      · rw [if_pos c_31] at hrun
        refine lv_bipush (v := (-2)) hx hb dX6_turn_34 (by decide) ?_
        have hrun := Option.some.inj hrun
        subst hrun
        rw [hQ]
        exact W.iret (v := (-2)) hx hb hr (fun t ht hW => ⟨⟨(-2), (), rfl, rfl, by rw [ht]; exact hP, hD⟩, hS.F ht⟩) hS.2.2 dX6_turn_36
    · rw [if_pos c_15] at hrun
      refine lv_iconst (v := (-1)) hx hb dX6_turn_18 (by decide) ?_
      have hrun := Option.some.inj hrun
      subst hrun
      rw [hQ]
      exact W.iret (v := (-1)) hx hb hr (fun t ht hW => ⟨⟨(-1), (), rfl, rfl, by rw [ht]; exact hP, hD⟩, hS.F ht⟩) hS.2.2 dX6_turn_19
-- SkyListenersModel.lend
def f_X6_lend (d_dishes : Int32) (d_askers : Int32) (d_st : Nat → Int32) (x1 : Int32) (x2 : Int32) (x3 : Int32) : Option (Int32 × (Nat → Int32)) := (if (f_X6_isDish d_dishes x1) = 0 then (some ((-1), d_st)) else (if (f_X6_isHour x2) = 0 then (some ((-1), d_st)) else (if (f_X6_isAsker d_askers x3) = 0 then (some ((-1), d_st)) else (if (d_st (Int32.toNatClampNeg 0)) = 12 then (some ((-3), d_st)) else ((f_X6_known d_st (-1) 0).bind fun q42 => (if (8 + (3 * (q42 (Int32.toNatClampNeg 0)))) < 0 ∨ 104 ≤ (8 + (3 * (q42 (Int32.toNatClampNeg 0)))).toNatClampNeg then none else (if ((8 + (3 * (q42 (Int32.toNatClampNeg 0)))) + 1) < 0 ∨ 104 ≤ ((8 + (3 * (q42 (Int32.toNatClampNeg 0)))) + 1).toNatClampNeg then none else (if ((8 + (3 * (q42 (Int32.toNatClampNeg 0)))) + 2) < 0 ∨ 104 ≤ ((8 + (3 * (q42 (Int32.toNatClampNeg 0)))) + 2).toNatClampNeg then none else (some ((upd (upd (upd (upd q42 (8 + (3 * (q42 (Int32.toNatClampNeg 0)))).toNatClampNeg x1) ((8 + (3 * (q42 (Int32.toNatClampNeg 0)))) + 1).toNatClampNeg x2) ((8 + (3 * (q42 (Int32.toNatClampNeg 0)))) + 2).toNatClampNeg x3) (Int32.toNatClampNeg 0) (((upd (upd (upd q42 (8 + (3 * (q42 (Int32.toNatClampNeg 0)))).toNatClampNeg x1) ((8 + (3 * (q42 (Int32.toNatClampNeg 0)))) + 1).toNatClampNeg x2) ((8 + (3 * (q42 (Int32.toNatClampNeg 0)))) + 2).toNatClampNeg x3) (Int32.toNatClampNeg 0)) + 1)) (Int32.toNatClampNeg 0), upd (upd (upd (upd q42 (8 + (3 * (q42 (Int32.toNatClampNeg 0)))).toNatClampNeg x1) ((8 + (3 * (q42 (Int32.toNatClampNeg 0)))) + 1).toNatClampNeg x2) ((8 + (3 * (q42 (Int32.toNatClampNeg 0)))) + 2).toNatClampNeg x3) (Int32.toNatClampNeg 0) (((upd (upd (upd q42 (8 + (3 * (q42 (Int32.toNatClampNeg 0)))).toNatClampNeg x1) ((8 + (3 * (q42 (Int32.toNatClampNeg 0)))) + 1).toNatClampNeg x2) ((8 + (3 * (q42 (Int32.toNatClampNeg 0)))) + 2).toNatClampNeg x3) (Int32.toNatClampNeg 0)) + 1)))))))))))
set_option maxHeartbeats 4000000 in
set_option maxRecDepth 100000 in
theorem c_X6_lend (l : Launch) (dC : Nat → ClassId) (dI : Nat → Nat → Nat) (cI cZ : ClassId) (sz : Nat) (p_asker p_images p_isKept p_noise p_room p_saidAsker p_saidMount p_saidNoise p_saidSpeaker p_speaker p_st p_text p_this : Nat) (d_dishes : Int32) (d_speakers : Int32) (d_noises : Int32) (d_askers : Int32) (d_trace : Int64) (d_texted : Int32) (d_cursor : Int32) (d_start : Int32) (d_token : Int32) (d_number : Int32) (d_word : Int64) (d_isWrong : Int32) (d_saidDishes : Int32) (d_saidSpeakers : Int32) (d_saidNoises : Int32) (d_saidAskers : Int32) (d_couldBe : Int32) (d_couldHere : Int32) (d_st : Nat → Int32) (x1 : Int32) (x2 : Int32) (x3 : Int32) (out : Int32 × (Nat → Int32)) (hrun : f_X6_lend d_dishes d_askers d_st x1 x2 x3 = some out) : Met l yX6_lend wsX6_lend ({ frames := 2, cells := 0, slots := 0, locals := 43 } : Room) (va_Pc [.ref p_this, .int x1, .int x2, .int x3] (PC dC dI cI cZ sz ([(p_this, .inr (6, [.int d_dishes, .int d_speakers, .ref p_speaker, .int d_noises, .ref p_noise, .int d_askers, .ref p_asker, .ref p_st, .ref p_images, .ref p_isKept, .long d_trace, .ref p_text, .int d_texted, .int d_cursor, .int d_start, .int d_token, .int d_number, .long d_word, .int d_isWrong, .int d_saidDishes, .ref p_saidMount, .int d_saidSpeakers, .ref p_saidSpeaker, .int d_saidNoises, .ref p_saidNoise, .int d_saidAskers, .ref p_saidAsker, .ref p_room, .int d_couldBe, .int d_couldHere])), (p_st, .inl (cI, 104, .inl d_st))] : va_W))) (va_Qi (fun r (_ : Unit) => r = out.1) (fun _ t => va_P (dC, dI) vwCl [(p_this, .inr (6, [.int d_dishes, .int d_speakers, .ref p_speaker, .int d_noises, .ref p_noise, .int d_askers, .ref p_asker, .ref p_st, .ref p_images, .ref p_isKept, .long d_trace, .ref p_text, .int d_texted, .int d_cursor, .int d_start, .int d_token, .int d_number, .long d_word, .int d_isWrong, .int d_saidDishes, .ref p_saidMount, .int d_saidSpeakers, .ref p_saidSpeaker, .int d_saidNoises, .ref p_saidNoise, .int d_saidAskers, .ref p_saidAsker, .ref p_room, .int d_couldBe, .int d_couldHere])), (p_st, .inl (cI, 104, .inl out.2))] t.heap ∧ va_D (va_A ([(p_this, .inr (6, [.int d_dishes, .int d_speakers, .ref p_speaker, .int d_noises, .ref p_noise, .int d_askers, .ref p_asker, .ref p_st, .ref p_images, .ref p_isKept, .long d_trace, .ref p_text, .int d_texted, .int d_cursor, .int d_start, .int d_token, .int d_number, .long d_word, .int d_isWrong, .int d_saidDishes, .ref p_saidMount, .int d_saidSpeakers, .ref p_saidSpeaker, .int d_saidNoises, .ref p_saidNoise, .int d_saidAskers, .ref p_saidAsker, .ref p_room, .int d_couldBe, .int d_couldHere])), (p_st, .inl (cI, 104, .inl d_st))] : va_W) sz) [(p_this, .inr (6, [.int d_dishes, .int d_speakers, .ref p_speaker, .int d_noises, .ref p_noise, .int d_askers, .ref p_asker, .ref p_st, .ref p_images, .ref p_isKept, .long d_trace, .ref p_text, .int d_texted, .int d_cursor, .int d_start, .int d_token, .int d_number, .long d_word, .int d_isWrong, .int d_saidDishes, .ref p_saidMount, .int d_saidSpeakers, .ref p_saidSpeaker, .int d_saidNoises, .ref p_saidNoise, .int d_saidAskers, .ref p_saidAsker, .ref p_room, .int d_couldBe, .int d_couldHere])), (p_st, .inl (cI, 104, .inl out.2))]) (va_A ([(p_this, .inr (6, [.int d_dishes, .int d_speakers, .ref p_speaker, .int d_noises, .ref p_noise, .int d_askers, .ref p_asker, .ref p_st, .ref p_images, .ref p_isKept, .long d_trace, .ref p_text, .int d_texted, .int d_cursor, .int d_start, .int d_token, .int d_number, .long d_word, .int d_isWrong, .int d_saidDishes, .ref p_saidMount, .int d_saidSpeakers, .ref p_saidSpeaker, .int d_saidNoises, .ref p_saidNoise, .int d_saidAskers, .ref p_saidAsker, .ref p_room, .int d_couldBe, .int d_couldHere])), (p_st, .inl (cI, 104, .inl d_st))] : va_W) sz)) 0 0 (va_A ([(p_this, .inr (6, [.int d_dishes, .int d_speakers, .ref p_speaker, .int d_noises, .ref p_noise, .int d_askers, .ref p_asker, .ref p_st, .ref p_images, .ref p_isKept, .long d_trace, .ref p_text, .int d_texted, .int d_cursor, .int d_start, .int d_token, .int d_number, .long d_word, .int d_isWrong, .int d_saidDishes, .ref p_saidMount, .int d_saidSpeakers, .ref p_saidSpeaker, .int d_saidNoises, .ref p_saidNoise, .int d_saidAskers, .ref p_saidAsker, .ref p_room, .int d_couldBe, .int d_couldHere])), (p_st, .inl (cI, 104, .inl d_st))] : va_W) sz) := by
  refine Met.ofW (cc := cX6_lend) (maxL := 5) (ret := (some .int)) (by decide) rfl ?_
  intro p e s m args below meth c s₁ B hml hv
  obtain ⟨rfl, hsz, hP, hK, hD0, hN⟩ := hv
  have hx := B.exec
  have hb := B.bytes
  have hr := B.returns
  have hts := atoms_spec (ws := wsX6_lend) B.pre
  have hown : s.vm.findClass RX6 = some m.cls := findClass_of_methodNamed B.named
  have hlocks := B.notSynchronized
  subst hsz
  have hD := hD0.self (sz := s.heap.size)
  generalize hAe : va_A ([(p_this, .inr (6, [.int d_dishes, .int d_speakers, .ref p_speaker, .int d_noises, .ref p_noise, .int d_askers, .ref p_asker, .ref p_st, .ref p_images, .ref p_isKept, .long d_trace, .ref p_text, .int d_texted, .int d_cursor, .int d_start, .int d_token, .int d_number, .long d_word, .int d_isWrong, .int d_saidDishes, .ref p_saidMount, .int d_saidSpeakers, .ref p_saidSpeaker, .int d_saidNoises, .ref p_saidNoise, .int d_saidAskers, .ref p_saidAsker, .ref p_room, .int d_couldBe, .int d_couldHere])), (p_st, .inl (cI, 104, .inl d_st))] : va_W) s.heap.size = A at hD ⊢
  have hA : ∀ q : Nat, s.heap.size ≤ q → A q := fun q h => by rw [← hAe]; exact Or.inr h
  have hS : va_S A s.heap s.heap [] := va_S.rf
  refine W_abs (fun Q hQ => ?_)
  have hl := lv_entry ([.ref p_this, .int x1, .int x2, .int x3]) (n := 5) (Nat.le_of_ble_eq_true rfl)
  rw [lg_entry_eq]
  generalize (lg_sl ([.ref p_this, .int x1, .int x2, .int x3]) ++ List.replicate (5 - (lg_sl ([.ref p_this, .int x1, .int x2, .int x3])).length) Slot.unset).toArray = ls at hl ⊢
  have hl : lv_has ls 5 [(0, .ref p_this), (1, .int x1), (2, .int x2), (3, .int x3)] := hl
  rw [f_X6_lend] at hrun
  refine W_start (ws := [(p_this, .inr (6, [.int d_dishes, .int d_speakers, .ref p_speaker, .int d_noises, .ref p_noise, .int d_askers, .ref p_asker, .ref p_st, .ref p_images, .ref p_isKept, .long d_trace, .ref p_text, .int d_texted, .int d_cursor, .int d_start, .int d_token, .int d_number, .long d_word, .int d_isWrong, .int d_saidDishes, .ref p_saidMount, .int d_saidSpeakers, .ref p_saidSpeaker, .int d_saidNoises, .ref p_saidNoise, .int d_saidAskers, .ref p_saidAsker, .ref p_room, .int d_couldBe, .int d_couldHere])), (p_st, .inl (cI, 104, .inl d_st))]) hP hS (fun H locs hP hS => ?_)
  have iwX6 : ∀ w ∈ wsX60, w ∈ wsX6_lend := by decide +kernel
  refine lv_aload_n hx hb dX6_lend_0 rfl (lv_at hl 0 rfl) ?_
  refine lv_iload_n hx hb dX6_lend_1 rfl (lv_at hl 1 rfl) ?_
  have hPc : va_P (dC, dI) vwCl [(p_this, .inr (6, [.int d_dishes, .int d_speakers, .ref p_speaker, .int d_noises, .ref p_noise, .int d_askers, .ref p_asker, .ref p_st, .ref p_images, .ref p_isKept, .long d_trace, .ref p_text, .int d_texted, .int d_cursor, .int d_start, .int d_token, .int d_number, .long d_word, .int d_isWrong, .int d_saidDishes, .ref p_saidMount, .int d_saidSpeakers, .ref p_saidSpeaker, .int d_saidNoises, .ref p_saidNoise, .int d_saidAskers, .ref p_saidAsker, .ref p_room, .int d_couldBe, .int d_couldHere]))] H := hP.sub [0] rfl
  have hDc : va_D A [(p_this, .inr (6, [.int d_dishes, .int d_speakers, .ref p_speaker, .int d_noises, .ref p_noise, .int d_askers, .ref p_asker, .ref p_st, .ref p_images, .ref p_isKept, .long d_trace, .ref p_text, .int d_texted, .int d_cursor, .int d_start, .int d_token, .int d_number, .long d_word, .int d_isWrong, .int d_saidDishes, .ref p_saidMount, .int d_saidSpeakers, .ref p_saidSpeaker, .int d_saidNoises, .ref p_saidNoise, .int d_saidAskers, .ref p_saidAsker, .ref p_room, .int d_couldBe, .int d_couldHere]))] := hD.sub [0] (by decide) rfl
  have hFc := va_free (wc := [(p_this, .inr (6, [.int d_dishes, .int d_speakers, .ref p_speaker, .int d_noises, .ref p_noise, .int d_askers, .ref p_asker, .ref p_st, .ref p_images, .ref p_isKept, .long d_trace, .ref p_text, .int d_texted, .int d_cursor, .int d_start, .int d_token, .int d_number, .long d_word, .int d_isWrong, .int d_saidDishes, .ref p_saidMount, .int d_saidSpeakers, .ref p_saidSpeaker, .int d_saidNoises, .ref p_saidNoise, .int d_saidAskers, .ref p_saidAsker, .ref p_room, .int d_couldBe, .int d_couldHere]))]) hD hS hA [0] rfl
  refine va_calli (va_runV (As := [.int x1]) (rest := []) ⟨hx, hb, hml, hown, hts⟩ (c_X6_isDish l dC dI cI cZ H.size p_asker p_images p_isKept p_noise p_room p_saidAsker p_saidMount p_saidNoise p_saidSpeaker p_speaker p_st p_text p_this d_dishes d_speakers d_noises d_askers d_trace d_texted d_cursor d_start d_token d_number d_word d_isWrong d_saidDishes d_saidSpeakers d_saidNoises d_saidAskers d_couldBe d_couldHere x1 (f_X6_isDish d_dishes x1) rfl) (cwV 1 hts gX6_lend_X6_isDish rfl rfl rfl (by decide +kernel) ⟨Nat.le_of_ble_eq_true rfl, Nat.le_of_ble_eq_true rfl⟩) ⟨fun a U g mk q => ⟨q.1, PC.mv q.2⟩, va_recv hK hP (ci := 6) (q0 := 0) rfl rfl, fun U hU hW => ⟨rfl, PC.of hU hW hPc hK hDc hN⟩⟩ rfl rfl hl.1 rfl (lv_room (Nat.le_of_ble_eq_true rfl)) dX6_lend_2 ⟨Nat.zero_le _, Nat.zero_le _⟩) hS (fun q _ h => hFc q h) hFc (fun r_2 u t H1 locs ht hvm hw hB hz1 hk1 hS => ?_)
  obtain ⟨hP1, hD1⟩ := hB
  try dsimp only at hw
  rw [hw]
  rw [ht] at hP1
  have hP : va_P (dC, dI) vwCl [(p_this, .inr (6, [.int d_dishes, .int d_speakers, .ref p_speaker, .int d_noises, .ref p_noise, .int d_askers, .ref p_asker, .ref p_st, .ref p_images, .ref p_isKept, .long d_trace, .ref p_text, .int d_texted, .int d_cursor, .int d_start, .int d_token, .int d_number, .long d_word, .int d_isWrong, .int d_saidDishes, .ref p_saidMount, .int d_saidSpeakers, .ref p_saidSpeaker, .int d_saidNoises, .ref p_saidNoise, .int d_saidAskers, .ref p_saidAsker, .ref p_room, .int d_couldBe, .int d_couldHere])), (p_st, .inl (cI, 104, .inl d_st))] H1 := join_ro hP hD [0] rfl hk1 hP1
  clear hPc hDc hFc hk1 hz1 hP1 hD1 ht hvm
  generalize H1 = H at hP hS ⊢
  refine lv_if_eq (tgt := 23) hx hb dX6_lend_5 (by decide) (fun c_5 => ?_) (fun c_5 => ?_)
  · rw [if_pos c_5] at hrun
    refine lv_iconst (v := (-1)) hx hb dX6_lend_23 (by decide) ?_
    have hrun := Option.some.inj hrun
    subst hrun
    rw [hQ]
    exact W.iret (v := (-1)) hx hb hr (fun t ht hW => ⟨⟨(-1), (), rfl, rfl, by rw [ht]; exact hP, hD⟩, hS.F ht⟩) hS.2.2 dX6_lend_24
  · rw [if_neg c_5] at hrun
    refine lv_iload_n hx hb dX6_lend_8 rfl (lv_at hl 2 rfl) ?_
    have hPc : va_P (dC, dI) vwCl [] H := hP.sub [] rfl
    have hDc : va_D A [] := hD.sub [] (by decide) rfl
    have hFc := va_free (wc := []) hD hS hA [] rfl
    refine va_calli (va_runS (As := [.int x2]) (rest := []) ⟨hx, hb, hml, hown, hts⟩ (c_X6_isHour l dC dI cI cZ H.size x2 (f_X6_isHour x2) rfl) (va_cwS 1 hts gX6_lend_X6_isHour rfl rfl rfl (by decide +kernel) ⟨Nat.le_of_ble_eq_true rfl, Nat.le_of_ble_eq_true rfl⟩) ⟨fun a U g mk q => ⟨q.1, PC.mv q.2⟩, fun U hU hW => ⟨rfl, PC.of hU hW hPc hK hDc hN⟩⟩ rfl rfl hl.1 rfl (lv_room (Nat.le_of_ble_eq_true rfl)) dX6_lend_9 ⟨Nat.zero_le _, Nat.zero_le _⟩) hS (fun q _ h => hFc q h) hFc (fun r_9 u t H1 locs ht hvm hw hB hz1 hk1 hS => ?_)
    obtain ⟨hP1, hD1⟩ := hB
    try dsimp only at hw
    rw [hw]
    rw [ht] at hP1
    have hP : va_P (dC, dI) vwCl [(p_this, .inr (6, [.int d_dishes, .int d_speakers, .ref p_speaker, .int d_noises, .ref p_noise, .int d_askers, .ref p_asker, .ref p_st, .ref p_images, .ref p_isKept, .long d_trace, .ref p_text, .int d_texted, .int d_cursor, .int d_start, .int d_token, .int d_number, .long d_word, .int d_isWrong, .int d_saidDishes, .ref p_saidMount, .int d_saidSpeakers, .ref p_saidSpeaker, .int d_saidNoises, .ref p_saidNoise, .int d_saidAskers, .ref p_saidAsker, .ref p_room, .int d_couldBe, .int d_couldHere])), (p_st, .inl (cI, 104, .inl d_st))] H1 := join_ro hP hD [] rfl hk1 hP1
    clear hPc hDc hFc hk1 hz1 hP1 hD1 ht hvm
    generalize H1 = H at hP hS ⊢
    refine lv_if_eq (tgt := 23) hx hb dX6_lend_12 (by decide) (fun c_12 => ?_) (fun c_12 => ?_)
    · rw [if_pos c_12] at hrun
      refine lv_iconst (v := (-1)) hx hb dX6_lend_23 (by decide) ?_
      have hrun := Option.some.inj hrun
      subst hrun
      rw [hQ]
      exact W.iret (v := (-1)) hx hb hr (fun t ht hW => ⟨⟨(-1), (), rfl, rfl, by rw [ht]; exact hP, hD⟩, hS.F ht⟩) hS.2.2 dX6_lend_24
    · rw [if_neg c_12] at hrun
      refine lv_aload_n hx hb dX6_lend_15 rfl (lv_at hl 0 rfl) ?_
      refine lv_iload_n hx hb dX6_lend_16 rfl (lv_at hl 3 rfl) ?_
      have hPc : va_P (dC, dI) vwCl [(p_this, .inr (6, [.int d_dishes, .int d_speakers, .ref p_speaker, .int d_noises, .ref p_noise, .int d_askers, .ref p_asker, .ref p_st, .ref p_images, .ref p_isKept, .long d_trace, .ref p_text, .int d_texted, .int d_cursor, .int d_start, .int d_token, .int d_number, .long d_word, .int d_isWrong, .int d_saidDishes, .ref p_saidMount, .int d_saidSpeakers, .ref p_saidSpeaker, .int d_saidNoises, .ref p_saidNoise, .int d_saidAskers, .ref p_saidAsker, .ref p_room, .int d_couldBe, .int d_couldHere]))] H := hP.sub [0] rfl
      have hDc : va_D A [(p_this, .inr (6, [.int d_dishes, .int d_speakers, .ref p_speaker, .int d_noises, .ref p_noise, .int d_askers, .ref p_asker, .ref p_st, .ref p_images, .ref p_isKept, .long d_trace, .ref p_text, .int d_texted, .int d_cursor, .int d_start, .int d_token, .int d_number, .long d_word, .int d_isWrong, .int d_saidDishes, .ref p_saidMount, .int d_saidSpeakers, .ref p_saidSpeaker, .int d_saidNoises, .ref p_saidNoise, .int d_saidAskers, .ref p_saidAsker, .ref p_room, .int d_couldBe, .int d_couldHere]))] := hD.sub [0] (by decide) rfl
      have hFc := va_free (wc := [(p_this, .inr (6, [.int d_dishes, .int d_speakers, .ref p_speaker, .int d_noises, .ref p_noise, .int d_askers, .ref p_asker, .ref p_st, .ref p_images, .ref p_isKept, .long d_trace, .ref p_text, .int d_texted, .int d_cursor, .int d_start, .int d_token, .int d_number, .long d_word, .int d_isWrong, .int d_saidDishes, .ref p_saidMount, .int d_saidSpeakers, .ref p_saidSpeaker, .int d_saidNoises, .ref p_saidNoise, .int d_saidAskers, .ref p_saidAsker, .ref p_room, .int d_couldBe, .int d_couldHere]))]) hD hS hA [0] rfl
      refine va_calli (va_runV (As := [.int x3]) (rest := []) ⟨hx, hb, hml, hown, hts⟩ (c_X6_isAsker l dC dI cI cZ H.size p_asker p_images p_isKept p_noise p_room p_saidAsker p_saidMount p_saidNoise p_saidSpeaker p_speaker p_st p_text p_this d_dishes d_speakers d_noises d_askers d_trace d_texted d_cursor d_start d_token d_number d_word d_isWrong d_saidDishes d_saidSpeakers d_saidNoises d_saidAskers d_couldBe d_couldHere x3 (f_X6_isAsker d_askers x3) rfl) (cwV 1 hts gX6_lend_X6_isAsker rfl rfl rfl (by decide +kernel) ⟨Nat.le_of_ble_eq_true rfl, Nat.le_of_ble_eq_true rfl⟩) ⟨fun a U g mk q => ⟨q.1, PC.mv q.2⟩, va_recv hK hP (ci := 6) (q0 := 0) rfl rfl, fun U hU hW => ⟨rfl, PC.of hU hW hPc hK hDc hN⟩⟩ rfl rfl hl.1 rfl (lv_room (Nat.le_of_ble_eq_true rfl)) dX6_lend_17 ⟨Nat.zero_le _, Nat.zero_le _⟩) hS (fun q _ h => hFc q h) hFc (fun r_17 u t H1 locs ht hvm hw hB hz1 hk1 hS => ?_)
      obtain ⟨hP1, hD1⟩ := hB
      try dsimp only at hw
      rw [hw]
      rw [ht] at hP1
      have hP : va_P (dC, dI) vwCl [(p_this, .inr (6, [.int d_dishes, .int d_speakers, .ref p_speaker, .int d_noises, .ref p_noise, .int d_askers, .ref p_asker, .ref p_st, .ref p_images, .ref p_isKept, .long d_trace, .ref p_text, .int d_texted, .int d_cursor, .int d_start, .int d_token, .int d_number, .long d_word, .int d_isWrong, .int d_saidDishes, .ref p_saidMount, .int d_saidSpeakers, .ref p_saidSpeaker, .int d_saidNoises, .ref p_saidNoise, .int d_saidAskers, .ref p_saidAsker, .ref p_room, .int d_couldBe, .int d_couldHere])), (p_st, .inl (cI, 104, .inl d_st))] H1 := join_ro hP hD [0] rfl hk1 hP1
      clear hPc hDc hFc hk1 hz1 hP1 hD1 ht hvm
      generalize H1 = H at hP hS ⊢
      refine lv_if_ne (tgt := 25) hx hb dX6_lend_20 (by decide) (fun c_20 => ?_) (fun c_20 => ?_)
      · rw [if_neg c_20] at hrun
        refine lv_aload_n hx hb dX6_lend_25 rfl (lv_at hl 0 rfl) ?_
        refine va_get (D := (dC, dI)) (ci := 6) (v := .ref p_st) (C := RX6) (T := TX6) (N := 30) hx hb hts iwX6 hown hK hP 0 rfl rfl 7 (by decide) (hts (.fieldLink RX6 19 "SkyListenersModel" "st" "[I") (by decide +kernel)) (fun _ h9 => h9) rfl dX6_lend_26 ?_
        refine lv_iconst (v := 0) hx hb dX6_lend_29 (by decide) ?_
        refine va_iald hx hb hK hP 1 0 rfl rfl (vp_lit (by decide) (by decide)) dX6_lend_30 ?_
        refine lv_bipush (v := 12) hx hb dX6_lend_31 (by decide) ?_
        refine lv_icmp_ne (tgt := 39) hx hb dX6_lend_33 (by decide) (fun c_33 => ?_) (fun c_33 => ?_)
        · rw [if_neg c_33] at hrun
          refine lv_aload_n hx hb dX6_lend_39 rfl (lv_at hl 0 rfl) ?_
          refine lv_iconst (v := (-1)) hx hb dX6_lend_40 (by decide) ?_
          refine lv_iconst (v := 0) hx hb dX6_lend_41 (by decide) ?_
          obtain ⟨q42, hq42, hrun⟩ := bind_out hrun
          have hPc : va_P (dC, dI) vwCl [(p_this, .inr (6, [.int d_dishes, .int d_speakers, .ref p_speaker, .int d_noises, .ref p_noise, .int d_askers, .ref p_asker, .ref p_st, .ref p_images, .ref p_isKept, .long d_trace, .ref p_text, .int d_texted, .int d_cursor, .int d_start, .int d_token, .int d_number, .long d_word, .int d_isWrong, .int d_saidDishes, .ref p_saidMount, .int d_saidSpeakers, .ref p_saidSpeaker, .int d_saidNoises, .ref p_saidNoise, .int d_saidAskers, .ref p_saidAsker, .ref p_room, .int d_couldBe, .int d_couldHere])), (p_st, .inl (cI, 104, .inl d_st))] H := hP.sub [0, 1] rfl
          have hDc : va_D A [(p_this, .inr (6, [.int d_dishes, .int d_speakers, .ref p_speaker, .int d_noises, .ref p_noise, .int d_askers, .ref p_asker, .ref p_st, .ref p_images, .ref p_isKept, .long d_trace, .ref p_text, .int d_texted, .int d_cursor, .int d_start, .int d_token, .int d_number, .long d_word, .int d_isWrong, .int d_saidDishes, .ref p_saidMount, .int d_saidSpeakers, .ref p_saidSpeaker, .int d_saidNoises, .ref p_saidNoise, .int d_saidAskers, .ref p_saidAsker, .ref p_room, .int d_couldBe, .int d_couldHere])), (p_st, .inl (cI, 104, .inl d_st))] := hD.sub [0, 1] (by decide) rfl
          have hFc := va_free (wc := [(p_this, .inr (6, [.int d_dishes, .int d_speakers, .ref p_speaker, .int d_noises, .ref p_noise, .int d_askers, .ref p_asker, .ref p_st, .ref p_images, .ref p_isKept, .long d_trace, .ref p_text, .int d_texted, .int d_cursor, .int d_start, .int d_token, .int d_number, .long d_word, .int d_isWrong, .int d_saidDishes, .ref p_saidMount, .int d_saidSpeakers, .ref p_saidSpeaker, .int d_saidNoises, .ref p_saidNoise, .int d_saidAskers, .ref p_saidAsker, .ref p_room, .int d_couldBe, .int d_couldHere])), (p_st, .inl (cI, 104, .inl d_st))]) hD hS hA [0, 1] rfl
          refine va_callv (va_runV (As := [.int (-1), .int 0]) (rest := []) ⟨hx, hb, hml, hown, hts⟩ (c_X6_known l dC dI cI cZ H.size p_asker p_images p_isKept p_noise p_room p_saidAsker p_saidMount p_saidNoise p_saidSpeaker p_speaker p_st p_text p_this d_dishes d_speakers d_noises d_askers d_trace d_texted d_cursor d_start d_token d_number d_word d_isWrong d_saidDishes d_saidSpeakers d_saidNoises d_saidAskers d_couldBe d_couldHere d_st (-1) 0 q42 hq42) (cwV 2 hts gX6_lend_X6_known rfl rfl rfl (by decide +kernel) ⟨Nat.le_of_ble_eq_true rfl, Nat.le_of_ble_eq_true rfl⟩) ⟨fun a U g mk q => ⟨q.1, PC.mv q.2⟩, va_recv hK hP (ci := 6) (q0 := 0) rfl rfl, fun U hU hW => ⟨rfl, PC.of hU hW hPc hK hDc hN⟩⟩ rfl rfl hl.1 rfl (lv_room (Nat.le_of_ble_eq_true rfl)) dX6_lend_42 ⟨Nat.zero_le _, Nat.zero_le _⟩) hS (fun q _ h => hFc q h) hFc (fun u t H1 locs ht hvm hw hB hz1 hk1 hS => ?_)
          obtain ⟨hP1, hD1⟩ := hB
          rw [ht] at hP1
          obtain ⟨hP, hD⟩ := va_join (wr := []) (w1 := [(p_this, .inr (6, [.int d_dishes, .int d_speakers, .ref p_speaker, .int d_noises, .ref p_noise, .int d_askers, .ref p_asker, .ref p_st, .ref p_images, .ref p_isKept, .long d_trace, .ref p_text, .int d_texted, .int d_cursor, .int d_start, .int d_token, .int d_number, .long d_word, .int d_isWrong, .int d_saidDishes, .ref p_saidMount, .int d_saidSpeakers, .ref p_saidSpeaker, .int d_saidNoises, .ref p_saidNoise, .int d_saidAskers, .ref p_saidAsker, .ref p_room, .int d_couldBe, .int d_couldHere])), (p_st, .inl (cI, 104, .inl q42))]) hP hD [0, 1] [] rfl rfl (by decide) (by decide) hk1 hFc hP1 hD1
          have hP : va_P (dC, dI) vwCl [(p_this, .inr (6, [.int d_dishes, .int d_speakers, .ref p_speaker, .int d_noises, .ref p_noise, .int d_askers, .ref p_asker, .ref p_st, .ref p_images, .ref p_isKept, .long d_trace, .ref p_text, .int d_texted, .int d_cursor, .int d_start, .int d_token, .int d_number, .long d_word, .int d_isWrong, .int d_saidDishes, .ref p_saidMount, .int d_saidSpeakers, .ref p_saidSpeaker, .int d_saidNoises, .ref p_saidNoise, .int d_saidAskers, .ref p_saidAsker, .ref p_room, .int d_couldBe, .int d_couldHere])), (p_st, .inl (cI, 104, .inl q42))] H1 := hP.sub [0, 1] rfl
          have hD : va_D A [(p_this, .inr (6, [.int d_dishes, .int d_speakers, .ref p_speaker, .int d_noises, .ref p_noise, .int d_askers, .ref p_asker, .ref p_st, .ref p_images, .ref p_isKept, .long d_trace, .ref p_text, .int d_texted, .int d_cursor, .int d_start, .int d_token, .int d_number, .long d_word, .int d_isWrong, .int d_saidDishes, .ref p_saidMount, .int d_saidSpeakers, .ref p_saidSpeaker, .int d_saidNoises, .ref p_saidNoise, .int d_saidAskers, .ref p_saidAsker, .ref p_room, .int d_couldBe, .int d_couldHere])), (p_st, .inl (cI, 104, .inl q42))] := hD.sub [0, 1] (by decide) rfl
          clear hPc hDc hFc hk1 hz1 hP1 hD1 ht hvm
          generalize H1 = H at hP hS ⊢
          refine lv_bipush (v := 8) hx hb dX6_lend_45 (by decide) ?_
          refine lv_iconst (v := 3) hx hb dX6_lend_47 (by decide) ?_
          refine lv_aload_n hx hb dX6_lend_48 rfl (lv_at hl 0 rfl) ?_
          refine va_get (D := (dC, dI)) (ci := 6) (v := .ref p_st) (C := RX6) (T := TX6) (N := 30) hx hb hts iwX6 hown hK hP 0 rfl rfl 7 (by decide) (hts (.fieldLink RX6 19 "SkyListenersModel" "st" "[I") (by decide +kernel)) (fun _ h9 => h9) rfl dX6_lend_49 ?_
          refine lv_iconst (v := 0) hx hb dX6_lend_52 (by decide) ?_
          refine va_iald hx hb hK hP 1 0 rfl rfl (vp_lit (by decide) (by decide)) dX6_lend_53 ?_
          refine lv_imul hx hb dX6_lend_54 ?_
          refine lv_iadd hx hb dX6_lend_55 ?_
          refine lv_istore (lv' := [(4, .int (8 + (3 * (q42 (Int32.toNatClampNeg 0))))), (0, .ref p_this), (1, .int x1), (2, .int x2), (3, .int x3)]) hx hb dX6_lend_56 hl (by decide) rfl (fun ls hl => ?_)
          refine lv_aload_n hx hb dX6_lend_58 rfl (lv_at hl 1 rfl) ?_
          refine va_get (D := (dC, dI)) (ci := 6) (v := .ref p_st) (C := RX6) (T := TX6) (N := 30) hx hb hts iwX6 hown hK hP 0 rfl rfl 7 (by decide) (hts (.fieldLink RX6 19 "SkyListenersModel" "st" "[I") (by decide +kernel)) (fun _ h9 => h9) rfl dX6_lend_59 ?_
          refine lv_iload hx hb dX6_lend_62 (lv_at hl 0 rfl) ?_
          refine lv_iload_n hx hb dX6_lend_64 rfl (lv_at hl 2 rfl) ?_
          rcases Classical.em ((8 + (3 * (q42 (Int32.toNatClampNeg 0)))) < 0 ∨ 104 ≤ (8 + (3 * (q42 (Int32.toNatClampNeg 0)))).toNatClampNeg) with g_65 | g_65
          · rw [if_pos g_65] at hrun; cases hrun
          rw [if_neg g_65] at hrun
          refine va_iast hx hb hK hP hD hS 1 0 rfl rfl g_65 dX6_lend_65 (fun H locs hP hD hS => ?_)
          have hP : va_P (dC, dI) vwCl [(p_this, .inr (6, [.int d_dishes, .int d_speakers, .ref p_speaker, .int d_noises, .ref p_noise, .int d_askers, .ref p_asker, .ref p_st, .ref p_images, .ref p_isKept, .long d_trace, .ref p_text, .int d_texted, .int d_cursor, .int d_start, .int d_token, .int d_number, .long d_word, .int d_isWrong, .int d_saidDishes, .ref p_saidMount, .int d_saidSpeakers, .ref p_saidSpeaker, .int d_saidNoises, .ref p_saidNoise, .int d_saidAskers, .ref p_saidAsker, .ref p_room, .int d_couldBe, .int d_couldHere])), (p_st, .inl (cI, 104, .inl (upd q42 (8 + (3 * (q42 (Int32.toNatClampNeg 0)))).toNatClampNeg x1)))] H := hP
          have hD : va_D A [(p_this, .inr (6, [.int d_dishes, .int d_speakers, .ref p_speaker, .int d_noises, .ref p_noise, .int d_askers, .ref p_asker, .ref p_st, .ref p_images, .ref p_isKept, .long d_trace, .ref p_text, .int d_texted, .int d_cursor, .int d_start, .int d_token, .int d_number, .long d_word, .int d_isWrong, .int d_saidDishes, .ref p_saidMount, .int d_saidSpeakers, .ref p_saidSpeaker, .int d_saidNoises, .ref p_saidNoise, .int d_saidAskers, .ref p_saidAsker, .ref p_room, .int d_couldBe, .int d_couldHere])), (p_st, .inl (cI, 104, .inl (upd q42 (8 + (3 * (q42 (Int32.toNatClampNeg 0)))).toNatClampNeg x1)))] := hD
          refine lv_aload_n hx hb dX6_lend_66 rfl (lv_at hl 1 rfl) ?_
          refine va_get (D := (dC, dI)) (ci := 6) (v := .ref p_st) (C := RX6) (T := TX6) (N := 30) hx hb hts iwX6 hown hK hP 0 rfl rfl 7 (by decide) (hts (.fieldLink RX6 19 "SkyListenersModel" "st" "[I") (by decide +kernel)) (fun _ h9 => h9) rfl dX6_lend_67 ?_
          refine lv_iload hx hb dX6_lend_70 (lv_at hl 0 rfl) ?_
          refine lv_iconst (v := 1) hx hb dX6_lend_72 (by decide) ?_
          refine lv_iadd hx hb dX6_lend_73 ?_
          refine lv_iload_n hx hb dX6_lend_74 rfl (lv_at hl 3 rfl) ?_
          rcases Classical.em (((8 + (3 * (q42 (Int32.toNatClampNeg 0)))) + 1) < 0 ∨ 104 ≤ ((8 + (3 * (q42 (Int32.toNatClampNeg 0)))) + 1).toNatClampNeg) with g_75 | g_75
          · rw [if_pos g_75] at hrun; cases hrun
          rw [if_neg g_75] at hrun
          refine va_iast hx hb hK hP hD hS 1 0 rfl rfl g_75 dX6_lend_75 (fun H locs hP hD hS => ?_)
          have hP : va_P (dC, dI) vwCl [(p_this, .inr (6, [.int d_dishes, .int d_speakers, .ref p_speaker, .int d_noises, .ref p_noise, .int d_askers, .ref p_asker, .ref p_st, .ref p_images, .ref p_isKept, .long d_trace, .ref p_text, .int d_texted, .int d_cursor, .int d_start, .int d_token, .int d_number, .long d_word, .int d_isWrong, .int d_saidDishes, .ref p_saidMount, .int d_saidSpeakers, .ref p_saidSpeaker, .int d_saidNoises, .ref p_saidNoise, .int d_saidAskers, .ref p_saidAsker, .ref p_room, .int d_couldBe, .int d_couldHere])), (p_st, .inl (cI, 104, .inl (upd (upd q42 (8 + (3 * (q42 (Int32.toNatClampNeg 0)))).toNatClampNeg x1) ((8 + (3 * (q42 (Int32.toNatClampNeg 0)))) + 1).toNatClampNeg x2)))] H := hP
          have hD : va_D A [(p_this, .inr (6, [.int d_dishes, .int d_speakers, .ref p_speaker, .int d_noises, .ref p_noise, .int d_askers, .ref p_asker, .ref p_st, .ref p_images, .ref p_isKept, .long d_trace, .ref p_text, .int d_texted, .int d_cursor, .int d_start, .int d_token, .int d_number, .long d_word, .int d_isWrong, .int d_saidDishes, .ref p_saidMount, .int d_saidSpeakers, .ref p_saidSpeaker, .int d_saidNoises, .ref p_saidNoise, .int d_saidAskers, .ref p_saidAsker, .ref p_room, .int d_couldBe, .int d_couldHere])), (p_st, .inl (cI, 104, .inl (upd (upd q42 (8 + (3 * (q42 (Int32.toNatClampNeg 0)))).toNatClampNeg x1) ((8 + (3 * (q42 (Int32.toNatClampNeg 0)))) + 1).toNatClampNeg x2)))] := hD
          refine lv_aload_n hx hb dX6_lend_76 rfl (lv_at hl 1 rfl) ?_
          refine va_get (D := (dC, dI)) (ci := 6) (v := .ref p_st) (C := RX6) (T := TX6) (N := 30) hx hb hts iwX6 hown hK hP 0 rfl rfl 7 (by decide) (hts (.fieldLink RX6 19 "SkyListenersModel" "st" "[I") (by decide +kernel)) (fun _ h9 => h9) rfl dX6_lend_77 ?_
          refine lv_iload hx hb dX6_lend_80 (lv_at hl 0 rfl) ?_
          refine lv_iconst (v := 2) hx hb dX6_lend_82 (by decide) ?_
          refine lv_iadd hx hb dX6_lend_83 ?_
          refine lv_iload_n hx hb dX6_lend_84 rfl (lv_at hl 4 rfl) ?_
          rcases Classical.em (((8 + (3 * (q42 (Int32.toNatClampNeg 0)))) + 2) < 0 ∨ 104 ≤ ((8 + (3 * (q42 (Int32.toNatClampNeg 0)))) + 2).toNatClampNeg) with g_85 | g_85
          · rw [if_pos g_85] at hrun; cases hrun
          rw [if_neg g_85] at hrun
          refine va_iast hx hb hK hP hD hS 1 0 rfl rfl g_85 dX6_lend_85 (fun H locs hP hD hS => ?_)
          have hP : va_P (dC, dI) vwCl [(p_this, .inr (6, [.int d_dishes, .int d_speakers, .ref p_speaker, .int d_noises, .ref p_noise, .int d_askers, .ref p_asker, .ref p_st, .ref p_images, .ref p_isKept, .long d_trace, .ref p_text, .int d_texted, .int d_cursor, .int d_start, .int d_token, .int d_number, .long d_word, .int d_isWrong, .int d_saidDishes, .ref p_saidMount, .int d_saidSpeakers, .ref p_saidSpeaker, .int d_saidNoises, .ref p_saidNoise, .int d_saidAskers, .ref p_saidAsker, .ref p_room, .int d_couldBe, .int d_couldHere])), (p_st, .inl (cI, 104, .inl (upd (upd (upd q42 (8 + (3 * (q42 (Int32.toNatClampNeg 0)))).toNatClampNeg x1) ((8 + (3 * (q42 (Int32.toNatClampNeg 0)))) + 1).toNatClampNeg x2) ((8 + (3 * (q42 (Int32.toNatClampNeg 0)))) + 2).toNatClampNeg x3)))] H := hP
          have hD : va_D A [(p_this, .inr (6, [.int d_dishes, .int d_speakers, .ref p_speaker, .int d_noises, .ref p_noise, .int d_askers, .ref p_asker, .ref p_st, .ref p_images, .ref p_isKept, .long d_trace, .ref p_text, .int d_texted, .int d_cursor, .int d_start, .int d_token, .int d_number, .long d_word, .int d_isWrong, .int d_saidDishes, .ref p_saidMount, .int d_saidSpeakers, .ref p_saidSpeaker, .int d_saidNoises, .ref p_saidNoise, .int d_saidAskers, .ref p_saidAsker, .ref p_room, .int d_couldBe, .int d_couldHere])), (p_st, .inl (cI, 104, .inl (upd (upd (upd q42 (8 + (3 * (q42 (Int32.toNatClampNeg 0)))).toNatClampNeg x1) ((8 + (3 * (q42 (Int32.toNatClampNeg 0)))) + 1).toNatClampNeg x2) ((8 + (3 * (q42 (Int32.toNatClampNeg 0)))) + 2).toNatClampNeg x3)))] := hD
          refine lv_aload_n hx hb dX6_lend_86 rfl (lv_at hl 1 rfl) ?_
          refine va_get (D := (dC, dI)) (ci := 6) (v := .ref p_st) (C := RX6) (T := TX6) (N := 30) hx hb hts iwX6 hown hK hP 0 rfl rfl 7 (by decide) (hts (.fieldLink RX6 19 "SkyListenersModel" "st" "[I") (by decide +kernel)) (fun _ h9 => h9) rfl dX6_lend_87 ?_
          refine lv_iconst (v := 0) hx hb dX6_lend_90 (by decide) ?_
          refine lv_dup2_11 hx hb dX6_lend_91 rfl rfl ?_
          refine va_iald hx hb hK hP 1 0 rfl rfl (vp_lit (by decide) (by decide)) dX6_lend_92 ?_
          refine lv_iconst (v := 1) hx hb dX6_lend_93 (by decide) ?_
          refine lv_iadd hx hb dX6_lend_94 ?_
          refine va_iast hx hb hK hP hD hS 1 0 rfl rfl (vp_lit (by decide) (by decide)) dX6_lend_95 (fun H locs hP hD hS => ?_)
          have hP : va_P (dC, dI) vwCl [(p_this, .inr (6, [.int d_dishes, .int d_speakers, .ref p_speaker, .int d_noises, .ref p_noise, .int d_askers, .ref p_asker, .ref p_st, .ref p_images, .ref p_isKept, .long d_trace, .ref p_text, .int d_texted, .int d_cursor, .int d_start, .int d_token, .int d_number, .long d_word, .int d_isWrong, .int d_saidDishes, .ref p_saidMount, .int d_saidSpeakers, .ref p_saidSpeaker, .int d_saidNoises, .ref p_saidNoise, .int d_saidAskers, .ref p_saidAsker, .ref p_room, .int d_couldBe, .int d_couldHere])), (p_st, .inl (cI, 104, .inl (upd (upd (upd (upd q42 (8 + (3 * (q42 (Int32.toNatClampNeg 0)))).toNatClampNeg x1) ((8 + (3 * (q42 (Int32.toNatClampNeg 0)))) + 1).toNatClampNeg x2) ((8 + (3 * (q42 (Int32.toNatClampNeg 0)))) + 2).toNatClampNeg x3) (Int32.toNatClampNeg 0) (((upd (upd (upd q42 (8 + (3 * (q42 (Int32.toNatClampNeg 0)))).toNatClampNeg x1) ((8 + (3 * (q42 (Int32.toNatClampNeg 0)))) + 1).toNatClampNeg x2) ((8 + (3 * (q42 (Int32.toNatClampNeg 0)))) + 2).toNatClampNeg x3) (Int32.toNatClampNeg 0)) + 1))))] H := hP
          have hD : va_D A [(p_this, .inr (6, [.int d_dishes, .int d_speakers, .ref p_speaker, .int d_noises, .ref p_noise, .int d_askers, .ref p_asker, .ref p_st, .ref p_images, .ref p_isKept, .long d_trace, .ref p_text, .int d_texted, .int d_cursor, .int d_start, .int d_token, .int d_number, .long d_word, .int d_isWrong, .int d_saidDishes, .ref p_saidMount, .int d_saidSpeakers, .ref p_saidSpeaker, .int d_saidNoises, .ref p_saidNoise, .int d_saidAskers, .ref p_saidAsker, .ref p_room, .int d_couldBe, .int d_couldHere])), (p_st, .inl (cI, 104, .inl (upd (upd (upd (upd q42 (8 + (3 * (q42 (Int32.toNatClampNeg 0)))).toNatClampNeg x1) ((8 + (3 * (q42 (Int32.toNatClampNeg 0)))) + 1).toNatClampNeg x2) ((8 + (3 * (q42 (Int32.toNatClampNeg 0)))) + 2).toNatClampNeg x3) (Int32.toNatClampNeg 0) (((upd (upd (upd q42 (8 + (3 * (q42 (Int32.toNatClampNeg 0)))).toNatClampNeg x1) ((8 + (3 * (q42 (Int32.toNatClampNeg 0)))) + 1).toNatClampNeg x2) ((8 + (3 * (q42 (Int32.toNatClampNeg 0)))) + 2).toNatClampNeg x3) (Int32.toNatClampNeg 0)) + 1))))] := hD
          refine lv_aload_n hx hb dX6_lend_96 rfl (lv_at hl 1 rfl) ?_
          refine va_get (D := (dC, dI)) (ci := 6) (v := .ref p_st) (C := RX6) (T := TX6) (N := 30) hx hb hts iwX6 hown hK hP 0 rfl rfl 7 (by decide) (hts (.fieldLink RX6 19 "SkyListenersModel" "st" "[I") (by decide +kernel)) (fun _ h9 => h9) rfl dX6_lend_97 ?_
          refine lv_iconst (v := 0) hx hb dX6_lend_100 (by decide) ?_
          refine va_iald hx hb hK hP 1 0 rfl rfl (vp_lit (by decide) (by decide)) dX6_lend_101 ?_
          have hrun := Option.some.inj hrun
          subst hrun
          rw [hQ]
          exact W.iret (v := (upd (upd (upd (upd q42 (8 + (3 * (q42 (Int32.toNatClampNeg 0)))).toNatClampNeg x1) ((8 + (3 * (q42 (Int32.toNatClampNeg 0)))) + 1).toNatClampNeg x2) ((8 + (3 * (q42 (Int32.toNatClampNeg 0)))) + 2).toNatClampNeg x3) (Int32.toNatClampNeg 0) (((upd (upd (upd q42 (8 + (3 * (q42 (Int32.toNatClampNeg 0)))).toNatClampNeg x1) ((8 + (3 * (q42 (Int32.toNatClampNeg 0)))) + 1).toNatClampNeg x2) ((8 + (3 * (q42 (Int32.toNatClampNeg 0)))) + 2).toNatClampNeg x3) (Int32.toNatClampNeg 0)) + 1)) (Int32.toNatClampNeg 0)) hx hb hr (fun t ht hW => ⟨⟨(upd (upd (upd (upd q42 (8 + (3 * (q42 (Int32.toNatClampNeg 0)))).toNatClampNeg x1) ((8 + (3 * (q42 (Int32.toNatClampNeg 0)))) + 1).toNatClampNeg x2) ((8 + (3 * (q42 (Int32.toNatClampNeg 0)))) + 2).toNatClampNeg x3) (Int32.toNatClampNeg 0) (((upd (upd (upd q42 (8 + (3 * (q42 (Int32.toNatClampNeg 0)))).toNatClampNeg x1) ((8 + (3 * (q42 (Int32.toNatClampNeg 0)))) + 1).toNatClampNeg x2) ((8 + (3 * (q42 (Int32.toNatClampNeg 0)))) + 2).toNatClampNeg x3) (Int32.toNatClampNeg 0)) + 1)) (Int32.toNatClampNeg 0), (), rfl, rfl, by rw [ht]; exact hP, hD⟩, hS.F ht⟩) hS.2.2 dX6_lend_102
        · rw [if_pos c_33] at hrun
          refine lv_bipush (v := (-3)) hx hb dX6_lend_36 (by decide) ?_
          have hrun := Option.some.inj hrun
          subst hrun
          rw [hQ]
          exact W.iret (v := (-3)) hx hb hr (fun t ht hW => ⟨⟨(-3), (), rfl, rfl, by rw [ht]; exact hP, hD⟩, hS.F ht⟩) hS.2.2 dX6_lend_38
      · rw [if_pos c_20] at hrun
        refine lv_iconst (v := (-1)) hx hb dX6_lend_23 (by decide) ?_
        have hrun := Option.some.inj hrun
        subst hrun
        rw [hQ]
        exact W.iret (v := (-1)) hx hb hr (fun t ht hW => ⟨⟨(-1), (), rfl, rfl, by rw [ht]; exact hP, hD⟩, hS.F ht⟩) hS.2.2 dX6_lend_24
-- SkyListenersModel.lent
def f_X6_lent (d_st : Nat → Int32) (x1 : Int32) (x2 : Int32) : Option (Int32) := (if (f_X6_in x1 0 ((d_st (Int32.toNatClampNeg 0)) - 1)) = 0 then (some (-1)) else (if (f_X6_in x2 0 2) = 0 then (some (-1)) else (if ((8 + (3 * x1)) + x2) < 0 ∨ 104 ≤ ((8 + (3 * x1)) + x2).toNatClampNeg then none else (some (d_st ((8 + (3 * x1)) + x2).toNatClampNeg)))))
set_option maxHeartbeats 4000000 in
set_option maxRecDepth 100000 in
theorem c_X6_lent (l : Launch) (dC : Nat → ClassId) (dI : Nat → Nat → Nat) (cI cZ : ClassId) (sz : Nat) (p_asker p_images p_isKept p_noise p_room p_saidAsker p_saidMount p_saidNoise p_saidSpeaker p_speaker p_st p_text p_this : Nat) (d_dishes : Int32) (d_speakers : Int32) (d_noises : Int32) (d_askers : Int32) (d_trace : Int64) (d_texted : Int32) (d_cursor : Int32) (d_start : Int32) (d_token : Int32) (d_number : Int32) (d_word : Int64) (d_isWrong : Int32) (d_saidDishes : Int32) (d_saidSpeakers : Int32) (d_saidNoises : Int32) (d_saidAskers : Int32) (d_couldBe : Int32) (d_couldHere : Int32) (d_st : Nat → Int32) (x1 : Int32) (x2 : Int32) (out : Int32) (hrun : f_X6_lent d_st x1 x2 = some out) : Met l yX6_lent wsX6_lent ({ frames := 1, cells := 0, slots := 0, locals := 22 } : Room) (va_Pc [.ref p_this, .int x1, .int x2] (PC dC dI cI cZ sz ([(p_this, .inr (6, [.int d_dishes, .int d_speakers, .ref p_speaker, .int d_noises, .ref p_noise, .int d_askers, .ref p_asker, .ref p_st, .ref p_images, .ref p_isKept, .long d_trace, .ref p_text, .int d_texted, .int d_cursor, .int d_start, .int d_token, .int d_number, .long d_word, .int d_isWrong, .int d_saidDishes, .ref p_saidMount, .int d_saidSpeakers, .ref p_saidSpeaker, .int d_saidNoises, .ref p_saidNoise, .int d_saidAskers, .ref p_saidAsker, .ref p_room, .int d_couldBe, .int d_couldHere])), (p_st, .inl (cI, 104, .inl d_st))] : va_W))) (va_Qi (fun r (_ : Unit) => r = out) (fun _ t => va_P (dC, dI) vwCl [(p_this, .inr (6, [.int d_dishes, .int d_speakers, .ref p_speaker, .int d_noises, .ref p_noise, .int d_askers, .ref p_asker, .ref p_st, .ref p_images, .ref p_isKept, .long d_trace, .ref p_text, .int d_texted, .int d_cursor, .int d_start, .int d_token, .int d_number, .long d_word, .int d_isWrong, .int d_saidDishes, .ref p_saidMount, .int d_saidSpeakers, .ref p_saidSpeaker, .int d_saidNoises, .ref p_saidNoise, .int d_saidAskers, .ref p_saidAsker, .ref p_room, .int d_couldBe, .int d_couldHere])), (p_st, .inl (cI, 104, .inl d_st))] t.heap ∧ va_D (va_A ([(p_this, .inr (6, [.int d_dishes, .int d_speakers, .ref p_speaker, .int d_noises, .ref p_noise, .int d_askers, .ref p_asker, .ref p_st, .ref p_images, .ref p_isKept, .long d_trace, .ref p_text, .int d_texted, .int d_cursor, .int d_start, .int d_token, .int d_number, .long d_word, .int d_isWrong, .int d_saidDishes, .ref p_saidMount, .int d_saidSpeakers, .ref p_saidSpeaker, .int d_saidNoises, .ref p_saidNoise, .int d_saidAskers, .ref p_saidAsker, .ref p_room, .int d_couldBe, .int d_couldHere])), (p_st, .inl (cI, 104, .inl d_st))] : va_W) sz) [(p_this, .inr (6, [.int d_dishes, .int d_speakers, .ref p_speaker, .int d_noises, .ref p_noise, .int d_askers, .ref p_asker, .ref p_st, .ref p_images, .ref p_isKept, .long d_trace, .ref p_text, .int d_texted, .int d_cursor, .int d_start, .int d_token, .int d_number, .long d_word, .int d_isWrong, .int d_saidDishes, .ref p_saidMount, .int d_saidSpeakers, .ref p_saidSpeaker, .int d_saidNoises, .ref p_saidNoise, .int d_saidAskers, .ref p_saidAsker, .ref p_room, .int d_couldBe, .int d_couldHere])), (p_st, .inl (cI, 104, .inl d_st))]) (va_A ([(p_this, .inr (6, [.int d_dishes, .int d_speakers, .ref p_speaker, .int d_noises, .ref p_noise, .int d_askers, .ref p_asker, .ref p_st, .ref p_images, .ref p_isKept, .long d_trace, .ref p_text, .int d_texted, .int d_cursor, .int d_start, .int d_token, .int d_number, .long d_word, .int d_isWrong, .int d_saidDishes, .ref p_saidMount, .int d_saidSpeakers, .ref p_saidSpeaker, .int d_saidNoises, .ref p_saidNoise, .int d_saidAskers, .ref p_saidAsker, .ref p_room, .int d_couldBe, .int d_couldHere])), (p_st, .inl (cI, 104, .inl d_st))] : va_W) sz)) 0 0 (va_A ([(p_this, .inr (6, [.int d_dishes, .int d_speakers, .ref p_speaker, .int d_noises, .ref p_noise, .int d_askers, .ref p_asker, .ref p_st, .ref p_images, .ref p_isKept, .long d_trace, .ref p_text, .int d_texted, .int d_cursor, .int d_start, .int d_token, .int d_number, .long d_word, .int d_isWrong, .int d_saidDishes, .ref p_saidMount, .int d_saidSpeakers, .ref p_saidSpeaker, .int d_saidNoises, .ref p_saidNoise, .int d_saidAskers, .ref p_saidAsker, .ref p_room, .int d_couldBe, .int d_couldHere])), (p_st, .inl (cI, 104, .inl d_st))] : va_W) sz) := by
  refine Met.ofW (cc := cX6_lent) (maxL := 3) (ret := (some .int)) (by decide) rfl ?_
  intro p e s m args below meth c s₁ B hml hv
  obtain ⟨rfl, hsz, hP, hK, hD0, hN⟩ := hv
  have hx := B.exec
  have hb := B.bytes
  have hr := B.returns
  have hts := atoms_spec (ws := wsX6_lent) B.pre
  have hown : s.vm.findClass RX6 = some m.cls := findClass_of_methodNamed B.named
  have hlocks := B.notSynchronized
  subst hsz
  have hD := hD0.self (sz := s.heap.size)
  generalize hAe : va_A ([(p_this, .inr (6, [.int d_dishes, .int d_speakers, .ref p_speaker, .int d_noises, .ref p_noise, .int d_askers, .ref p_asker, .ref p_st, .ref p_images, .ref p_isKept, .long d_trace, .ref p_text, .int d_texted, .int d_cursor, .int d_start, .int d_token, .int d_number, .long d_word, .int d_isWrong, .int d_saidDishes, .ref p_saidMount, .int d_saidSpeakers, .ref p_saidSpeaker, .int d_saidNoises, .ref p_saidNoise, .int d_saidAskers, .ref p_saidAsker, .ref p_room, .int d_couldBe, .int d_couldHere])), (p_st, .inl (cI, 104, .inl d_st))] : va_W) s.heap.size = A at hD ⊢
  have hA : ∀ q : Nat, s.heap.size ≤ q → A q := fun q h => by rw [← hAe]; exact Or.inr h
  have hS : va_S A s.heap s.heap [] := va_S.rf
  refine W_abs (fun Q hQ => ?_)
  have hl := lv_entry ([.ref p_this, .int x1, .int x2]) (n := 3) (Nat.le_of_ble_eq_true rfl)
  rw [lg_entry_eq]
  generalize (lg_sl ([.ref p_this, .int x1, .int x2]) ++ List.replicate (3 - (lg_sl ([.ref p_this, .int x1, .int x2])).length) Slot.unset).toArray = ls at hl ⊢
  have hl : lv_has ls 3 [(0, .ref p_this), (1, .int x1), (2, .int x2)] := hl
  rw [f_X6_lent] at hrun
  refine W_start (ws := [(p_this, .inr (6, [.int d_dishes, .int d_speakers, .ref p_speaker, .int d_noises, .ref p_noise, .int d_askers, .ref p_asker, .ref p_st, .ref p_images, .ref p_isKept, .long d_trace, .ref p_text, .int d_texted, .int d_cursor, .int d_start, .int d_token, .int d_number, .long d_word, .int d_isWrong, .int d_saidDishes, .ref p_saidMount, .int d_saidSpeakers, .ref p_saidSpeaker, .int d_saidNoises, .ref p_saidNoise, .int d_saidAskers, .ref p_saidAsker, .ref p_room, .int d_couldBe, .int d_couldHere])), (p_st, .inl (cI, 104, .inl d_st))]) hP hS (fun H locs hP hS => ?_)
  have iwX6 : ∀ w ∈ wsX60, w ∈ wsX6_lent := by decide +kernel
  refine lv_iload_n hx hb dX6_lent_0 rfl (lv_at hl 1 rfl) ?_
  refine lv_iconst (v := 0) hx hb dX6_lent_1 (by decide) ?_
  refine lv_aload_n hx hb dX6_lent_2 rfl (lv_at hl 0 rfl) ?_
  refine va_get (D := (dC, dI)) (ci := 6) (v := .ref p_st) (C := RX6) (T := TX6) (N := 30) hx hb hts iwX6 hown hK hP 0 rfl rfl 7 (by decide) (hts (.fieldLink RX6 19 "SkyListenersModel" "st" "[I") (by decide +kernel)) (fun _ h9 => h9) rfl dX6_lent_3 ?_
  refine lv_iconst (v := 0) hx hb dX6_lent_6 (by decide) ?_
  refine va_iald hx hb hK hP 1 0 rfl rfl (vp_lit (by decide) (by decide)) dX6_lent_7 ?_
  refine lv_iconst (v := 1) hx hb dX6_lent_8 (by decide) ?_
  refine lv_isub hx hb dX6_lent_9 ?_
  have hPc : va_P (dC, dI) vwCl [] H := hP.sub [] rfl
  have hDc : va_D A [] := hD.sub [] (by decide) rfl
  have hFc := va_free (wc := []) hD hS hA [] rfl
  refine va_calli (va_runS (As := [.int x1, .int 0, .int ((d_st (Int32.toNatClampNeg 0)) - 1)]) (rest := []) ⟨hx, hb, hml, hown, hts⟩ (c_X6_in l dC dI cI cZ H.size x1 0 ((d_st (Int32.toNatClampNeg 0)) - 1) (f_X6_in x1 0 ((d_st (Int32.toNatClampNeg 0)) - 1)) rfl) (va_cwS 3 hts gX6_lent_X6_in rfl rfl rfl (by decide +kernel) ⟨Nat.le_of_ble_eq_true rfl, Nat.le_of_ble_eq_true rfl⟩) ⟨fun a U g mk q => ⟨q.1, PC.mv q.2⟩, fun U hU hW => ⟨rfl, PC.of hU hW hPc hK hDc hN⟩⟩ rfl rfl hl.1 rfl (lv_room (Nat.le_of_ble_eq_true rfl)) dX6_lent_10 ⟨Nat.zero_le _, Nat.zero_le _⟩) hS (fun q _ h => hFc q h) hFc (fun r_10 u t H1 locs ht hvm hw hB hz1 hk1 hS => ?_)
  obtain ⟨hP1, hD1⟩ := hB
  try dsimp only at hw
  rw [hw]
  rw [ht] at hP1
  have hP : va_P (dC, dI) vwCl [(p_this, .inr (6, [.int d_dishes, .int d_speakers, .ref p_speaker, .int d_noises, .ref p_noise, .int d_askers, .ref p_asker, .ref p_st, .ref p_images, .ref p_isKept, .long d_trace, .ref p_text, .int d_texted, .int d_cursor, .int d_start, .int d_token, .int d_number, .long d_word, .int d_isWrong, .int d_saidDishes, .ref p_saidMount, .int d_saidSpeakers, .ref p_saidSpeaker, .int d_saidNoises, .ref p_saidNoise, .int d_saidAskers, .ref p_saidAsker, .ref p_room, .int d_couldBe, .int d_couldHere])), (p_st, .inl (cI, 104, .inl d_st))] H1 := join_ro hP hD [] rfl hk1 hP1
  clear hPc hDc hFc hk1 hz1 hP1 hD1 ht hvm
  generalize H1 = H at hP hS ⊢
  refine lv_if_eq (tgt := 41) hx hb dX6_lent_13 (by decide) (fun c_13 => ?_) (fun c_13 => ?_)
  · rw [if_pos c_13] at hrun
    refine lv_iconst (v := (-1)) hx hb dX6_lent_41 (by decide) ?_
    have hrun := Option.some.inj hrun
    subst hrun
    rw [hQ]
    exact W.iret (v := (-1)) hx hb hr (fun t ht hW => ⟨⟨(-1), (), rfl, rfl, by rw [ht]; exact hP, hD⟩, hS.F ht⟩) hS.2.2 dX6_lent_42
  · rw [if_neg c_13] at hrun
    refine lv_iload_n hx hb dX6_lent_16 rfl (lv_at hl 2 rfl) ?_
    refine lv_iconst (v := 0) hx hb dX6_lent_17 (by decide) ?_
    refine lv_iconst (v := 2) hx hb dX6_lent_18 (by decide) ?_
    have hPc : va_P (dC, dI) vwCl [] H := hP.sub [] rfl
    have hDc : va_D A [] := hD.sub [] (by decide) rfl
    have hFc := va_free (wc := []) hD hS hA [] rfl
    refine va_calli (va_runS (As := [.int x2, .int 0, .int 2]) (rest := []) ⟨hx, hb, hml, hown, hts⟩ (c_X6_in l dC dI cI cZ H.size x2 0 2 (f_X6_in x2 0 2) rfl) (va_cwS 3 hts gX6_lent_X6_in rfl rfl rfl (by decide +kernel) ⟨Nat.le_of_ble_eq_true rfl, Nat.le_of_ble_eq_true rfl⟩) ⟨fun a U g mk q => ⟨q.1, PC.mv q.2⟩, fun U hU hW => ⟨rfl, PC.of hU hW hPc hK hDc hN⟩⟩ rfl rfl hl.1 rfl (lv_room (Nat.le_of_ble_eq_true rfl)) dX6_lent_19 ⟨Nat.zero_le _, Nat.zero_le _⟩) hS (fun q _ h => hFc q h) hFc (fun r_19 u t H1 locs ht hvm hw hB hz1 hk1 hS => ?_)
    obtain ⟨hP1, hD1⟩ := hB
    try dsimp only at hw
    rw [hw]
    rw [ht] at hP1
    have hP : va_P (dC, dI) vwCl [(p_this, .inr (6, [.int d_dishes, .int d_speakers, .ref p_speaker, .int d_noises, .ref p_noise, .int d_askers, .ref p_asker, .ref p_st, .ref p_images, .ref p_isKept, .long d_trace, .ref p_text, .int d_texted, .int d_cursor, .int d_start, .int d_token, .int d_number, .long d_word, .int d_isWrong, .int d_saidDishes, .ref p_saidMount, .int d_saidSpeakers, .ref p_saidSpeaker, .int d_saidNoises, .ref p_saidNoise, .int d_saidAskers, .ref p_saidAsker, .ref p_room, .int d_couldBe, .int d_couldHere])), (p_st, .inl (cI, 104, .inl d_st))] H1 := join_ro hP hD [] rfl hk1 hP1
    clear hPc hDc hFc hk1 hz1 hP1 hD1 ht hvm
    generalize H1 = H at hP hS ⊢
    refine lv_if_eq (tgt := 41) hx hb dX6_lent_22 (by decide) (fun c_22 => ?_) (fun c_22 => ?_)
    · rw [if_pos c_22] at hrun
      refine lv_iconst (v := (-1)) hx hb dX6_lent_41 (by decide) ?_
      have hrun := Option.some.inj hrun
      subst hrun
      rw [hQ]
      exact W.iret (v := (-1)) hx hb hr (fun t ht hW => ⟨⟨(-1), (), rfl, rfl, by rw [ht]; exact hP, hD⟩, hS.F ht⟩) hS.2.2 dX6_lent_42
    · rw [if_neg c_22] at hrun
      refine lv_aload_n hx hb dX6_lent_25 rfl (lv_at hl 0 rfl) ?_
      refine va_get (D := (dC, dI)) (ci := 6) (v := .ref p_st) (C := RX6) (T := TX6) (N := 30) hx hb hts iwX6 hown hK hP 0 rfl rfl 7 (by decide) (hts (.fieldLink RX6 19 "SkyListenersModel" "st" "[I") (by decide +kernel)) (fun _ h9 => h9) rfl dX6_lent_26 ?_
      refine lv_bipush (v := 8) hx hb dX6_lent_29 (by decide) ?_
      refine lv_iconst (v := 3) hx hb dX6_lent_31 (by decide) ?_
      refine lv_iload_n hx hb dX6_lent_32 rfl (lv_at hl 1 rfl) ?_
      refine lv_imul hx hb dX6_lent_33 ?_
      refine lv_iadd hx hb dX6_lent_34 ?_
      refine lv_iload_n hx hb dX6_lent_35 rfl (lv_at hl 2 rfl) ?_
      refine lv_iadd hx hb dX6_lent_36 ?_
      rcases Classical.em (((8 + (3 * x1)) + x2) < 0 ∨ 104 ≤ ((8 + (3 * x1)) + x2).toNatClampNeg) with g_37 | g_37
      · rw [if_pos g_37] at hrun; cases hrun
      rw [if_neg g_37] at hrun
      refine va_iald hx hb hK hP 1 0 rfl rfl g_37 dX6_lent_37 ?_
      refine lv_goto (tgt := 42) hx hb dX6_lent_38 (by decide) ?_
      have hrun := Option.some.inj hrun
      subst hrun
      rw [hQ]
      exact W.iret (v := d_st ((8 + (3 * x1)) + x2).toNatClampNeg) hx hb hr (fun t ht hW => ⟨⟨d_st ((8 + (3 * x1)) + x2).toNatClampNeg, (), rfl, rfl, by rw [ht]; exact hP, hD⟩, hS.F ht⟩) hS.2.2 dX6_lent_42
-- SkyListenersModel.firstTwice
def f_X6_firstTwice_X101 (K12 : Int32 → Int32 → Option (Int32)) (x2 : Int32) (d_st : Nat → Int32) (x1 : Int32) : Option (Int32) := (K12 x1 (x2 + (-1)))
def f_X6_firstTwice_J94 (K18 : Int32 → Int32 → Option (Int32)) (x2 : Int32) (x3 : Int32) (d_st : Nat → Int32) (t0 : Int32) : Option (Int32) := (K18 t0 (x3 + 1))
def f_X6_firstTwice_J82 (K18 : Int32 → Int32 → Option (Int32)) (x1 : Int32) (x2 : Int32) (x3 : Int32) (d_st : Nat → Int32) (t0 : Int32) : Option (Int32) := (if t0 = 0 then (f_X6_firstTwice_J94 K18 x2 x3 d_st x1) else (f_X6_firstTwice_J94 K18 x2 x3 d_st x2))
def f_X6_firstTwice_L18 (K101 : Int32 → Option (Int32)) (x2 : Int32) (d_st : Nat → Int32) : Nat → Int32 → Int32 → Option (Int32)
  | 0, _, _ => none
  | n9 + 1, x1, x3 => (if x2 ≤ x3 then (K101 x1) else (if (8 + (3 * x2)) < 0 ∨ 104 ≤ (8 + (3 * x2)).toNatClampNeg then none else (if (8 + (3 * x3)) < 0 ∨ 104 ≤ (8 + (3 * x3)).toNatClampNeg then none else (if (d_st (8 + (3 * x2)).toNatClampNeg) = (d_st (8 + (3 * x3)).toNatClampNeg) then (if ((8 + (3 * x2)) + 1) < 0 ∨ 104 ≤ ((8 + (3 * x2)) + 1).toNatClampNeg then none else (if ((8 + (3 * x3)) + 1) < 0 ∨ 104 ≤ ((8 + (3 * x3)) + 1).toNatClampNeg then none else (if (d_st ((8 + (3 * x2)) + 1).toNatClampNeg) = (d_st ((8 + (3 * x3)) + 1).toNatClampNeg) then (f_X6_firstTwice_J82 (f_X6_firstTwice_L18 K101 x2 d_st n9) x1 x2 x3 d_st 1) else (f_X6_firstTwice_J82 (f_X6_firstTwice_L18 K101 x2 d_st n9) x1 x2 x3 d_st 0)))) else (f_X6_firstTwice_J82 (f_X6_firstTwice_L18 K101 x2 d_st n9) x1 x2 x3 d_st 0)))))
def f_X6_firstTwice_L12 (d_st : Nat → Int32) : Nat → Int32 → Int32 → Option (Int32)
  | 0, _, _ => none
  | n9 + 1, x1, x2 => (if x2 ≤ 0 then (some x1) else (f_X6_firstTwice_L18 (f_X6_firstTwice_X101 (f_X6_firstTwice_L12  d_st n9) x2 d_st) x2 d_st FU x1 0))
def f_X6_firstTwice (d_st : Nat → Int32) : Option (Int32) := (f_X6_firstTwice_L12 d_st FU (-9) ((d_st (Int32.toNatClampNeg 0)) - 1))
set_option maxHeartbeats 4000000 in
set_option maxRecDepth 100000 in
theorem c_X6_firstTwice (l : Launch) (dC : Nat → ClassId) (dI : Nat → Nat → Nat) (cI cZ : ClassId) (sz : Nat) (p_asker p_images p_isKept p_noise p_room p_saidAsker p_saidMount p_saidNoise p_saidSpeaker p_speaker p_st p_text p_this : Nat) (d_dishes : Int32) (d_speakers : Int32) (d_noises : Int32) (d_askers : Int32) (d_trace : Int64) (d_texted : Int32) (d_cursor : Int32) (d_start : Int32) (d_token : Int32) (d_number : Int32) (d_word : Int64) (d_isWrong : Int32) (d_saidDishes : Int32) (d_saidSpeakers : Int32) (d_saidNoises : Int32) (d_saidAskers : Int32) (d_couldBe : Int32) (d_couldHere : Int32) (d_st : Nat → Int32) (out : Int32) (hrun : f_X6_firstTwice d_st = some out) : Met l yX6_firstTwice wsX6_firstTwice ({ frames := 0, cells := 0, slots := 0, locals := 0 } : Room) (va_Pc [.ref p_this] (PC dC dI cI cZ sz ([(p_this, .inr (6, [.int d_dishes, .int d_speakers, .ref p_speaker, .int d_noises, .ref p_noise, .int d_askers, .ref p_asker, .ref p_st, .ref p_images, .ref p_isKept, .long d_trace, .ref p_text, .int d_texted, .int d_cursor, .int d_start, .int d_token, .int d_number, .long d_word, .int d_isWrong, .int d_saidDishes, .ref p_saidMount, .int d_saidSpeakers, .ref p_saidSpeaker, .int d_saidNoises, .ref p_saidNoise, .int d_saidAskers, .ref p_saidAsker, .ref p_room, .int d_couldBe, .int d_couldHere])), (p_st, .inl (cI, 104, .inl d_st))] : va_W))) (va_Qi (fun r (_ : Unit) => r = out) (fun _ t => va_P (dC, dI) vwCl [(p_this, .inr (6, [.int d_dishes, .int d_speakers, .ref p_speaker, .int d_noises, .ref p_noise, .int d_askers, .ref p_asker, .ref p_st, .ref p_images, .ref p_isKept, .long d_trace, .ref p_text, .int d_texted, .int d_cursor, .int d_start, .int d_token, .int d_number, .long d_word, .int d_isWrong, .int d_saidDishes, .ref p_saidMount, .int d_saidSpeakers, .ref p_saidSpeaker, .int d_saidNoises, .ref p_saidNoise, .int d_saidAskers, .ref p_saidAsker, .ref p_room, .int d_couldBe, .int d_couldHere])), (p_st, .inl (cI, 104, .inl d_st))] t.heap ∧ va_D (va_A ([(p_this, .inr (6, [.int d_dishes, .int d_speakers, .ref p_speaker, .int d_noises, .ref p_noise, .int d_askers, .ref p_asker, .ref p_st, .ref p_images, .ref p_isKept, .long d_trace, .ref p_text, .int d_texted, .int d_cursor, .int d_start, .int d_token, .int d_number, .long d_word, .int d_isWrong, .int d_saidDishes, .ref p_saidMount, .int d_saidSpeakers, .ref p_saidSpeaker, .int d_saidNoises, .ref p_saidNoise, .int d_saidAskers, .ref p_saidAsker, .ref p_room, .int d_couldBe, .int d_couldHere])), (p_st, .inl (cI, 104, .inl d_st))] : va_W) sz) [(p_this, .inr (6, [.int d_dishes, .int d_speakers, .ref p_speaker, .int d_noises, .ref p_noise, .int d_askers, .ref p_asker, .ref p_st, .ref p_images, .ref p_isKept, .long d_trace, .ref p_text, .int d_texted, .int d_cursor, .int d_start, .int d_token, .int d_number, .long d_word, .int d_isWrong, .int d_saidDishes, .ref p_saidMount, .int d_saidSpeakers, .ref p_saidSpeaker, .int d_saidNoises, .ref p_saidNoise, .int d_saidAskers, .ref p_saidAsker, .ref p_room, .int d_couldBe, .int d_couldHere])), (p_st, .inl (cI, 104, .inl d_st))]) (va_A ([(p_this, .inr (6, [.int d_dishes, .int d_speakers, .ref p_speaker, .int d_noises, .ref p_noise, .int d_askers, .ref p_asker, .ref p_st, .ref p_images, .ref p_isKept, .long d_trace, .ref p_text, .int d_texted, .int d_cursor, .int d_start, .int d_token, .int d_number, .long d_word, .int d_isWrong, .int d_saidDishes, .ref p_saidMount, .int d_saidSpeakers, .ref p_saidSpeaker, .int d_saidNoises, .ref p_saidNoise, .int d_saidAskers, .ref p_saidAsker, .ref p_room, .int d_couldBe, .int d_couldHere])), (p_st, .inl (cI, 104, .inl d_st))] : va_W) sz)) 0 0 (va_A ([(p_this, .inr (6, [.int d_dishes, .int d_speakers, .ref p_speaker, .int d_noises, .ref p_noise, .int d_askers, .ref p_asker, .ref p_st, .ref p_images, .ref p_isKept, .long d_trace, .ref p_text, .int d_texted, .int d_cursor, .int d_start, .int d_token, .int d_number, .long d_word, .int d_isWrong, .int d_saidDishes, .ref p_saidMount, .int d_saidSpeakers, .ref p_saidSpeaker, .int d_saidNoises, .ref p_saidNoise, .int d_saidAskers, .ref p_saidAsker, .ref p_room, .int d_couldBe, .int d_couldHere])), (p_st, .inl (cI, 104, .inl d_st))] : va_W) sz) := by
  refine Met.ofW (cc := cX6_firstTwice) (maxL := 5) (ret := (some .int)) (by decide) rfl ?_
  intro p e s m args below meth c s₁ B hml hv
  obtain ⟨rfl, hsz, hP, hK, hD0, hN⟩ := hv
  have hx := B.exec
  have hb := B.bytes
  have hr := B.returns
  have hts := atoms_spec (ws := wsX6_firstTwice) B.pre
  have hown : s.vm.findClass RX6 = some m.cls := findClass_of_methodNamed B.named
  have hlocks := B.notSynchronized
  subst hsz
  have hD := hD0.self (sz := s.heap.size)
  generalize hAe : va_A ([(p_this, .inr (6, [.int d_dishes, .int d_speakers, .ref p_speaker, .int d_noises, .ref p_noise, .int d_askers, .ref p_asker, .ref p_st, .ref p_images, .ref p_isKept, .long d_trace, .ref p_text, .int d_texted, .int d_cursor, .int d_start, .int d_token, .int d_number, .long d_word, .int d_isWrong, .int d_saidDishes, .ref p_saidMount, .int d_saidSpeakers, .ref p_saidSpeaker, .int d_saidNoises, .ref p_saidNoise, .int d_saidAskers, .ref p_saidAsker, .ref p_room, .int d_couldBe, .int d_couldHere])), (p_st, .inl (cI, 104, .inl d_st))] : va_W) s.heap.size = A at hD ⊢
  have hA : ∀ q : Nat, s.heap.size ≤ q → A q := fun q h => by rw [← hAe]; exact Or.inr h
  have hS : va_S A s.heap s.heap [] := va_S.rf
  refine W_abs (fun Q hQ => ?_)
  have hl := lv_entry ([.ref p_this]) (n := 5) (Nat.le_of_ble_eq_true rfl)
  rw [lg_entry_eq]
  generalize (lg_sl ([.ref p_this]) ++ List.replicate (5 - (lg_sl ([.ref p_this])).length) Slot.unset).toArray = ls at hl ⊢
  have hl : lv_has ls 5 [(0, .ref p_this)] := hl
  rw [f_X6_firstTwice] at hrun
  refine W_start (ws := [(p_this, .inr (6, [.int d_dishes, .int d_speakers, .ref p_speaker, .int d_noises, .ref p_noise, .int d_askers, .ref p_asker, .ref p_st, .ref p_images, .ref p_isKept, .long d_trace, .ref p_text, .int d_texted, .int d_cursor, .int d_start, .int d_token, .int d_number, .long d_word, .int d_isWrong, .int d_saidDishes, .ref p_saidMount, .int d_saidSpeakers, .ref p_saidSpeaker, .int d_saidNoises, .ref p_saidNoise, .int d_saidAskers, .ref p_saidAsker, .ref p_room, .int d_couldBe, .int d_couldHere])), (p_st, .inl (cI, 104, .inl d_st))]) hP hS (fun H locs hP hS => ?_)
  have iwX6 : ∀ w ∈ wsX60, w ∈ wsX6_firstTwice := by decide +kernel
  refine lv_bipush (v := (-9)) hx hb dX6_firstTwice_0 (by decide) ?_
  refine lv_istore_n (lv' := [(1, .int (-9)), (0, .ref p_this)]) hx hb dX6_firstTwice_2 rfl hl (by decide) rfl (fun ls hl => ?_)
  refine lv_aload_n hx hb dX6_firstTwice_3 rfl (lv_at hl 1 rfl) ?_
  refine va_get (D := (dC, dI)) (ci := 6) (v := .ref p_st) (C := RX6) (T := TX6) (N := 30) hx hb hts iwX6 hown hK hP 0 rfl rfl 7 (by decide) (hts (.fieldLink RX6 19 "SkyListenersModel" "st" "[I") (by decide +kernel)) (fun _ h9 => h9) rfl dX6_firstTwice_4 ?_
  refine lv_iconst (v := 0) hx hb dX6_firstTwice_7 (by decide) ?_
  refine va_iald hx hb hK hP 1 0 rfl rfl (vp_lit (by decide) (by decide)) dX6_firstTwice_8 ?_
  refine lv_iconst (v := 1) hx hb dX6_firstTwice_9 (by decide) ?_
  refine lv_isub hx hb dX6_firstTwice_10 ?_
  refine lv_istore_n (lv' := [(2, .int ((d_st (Int32.toNatClampNeg 0)) - 1)), (1, .int (-9)), (0, .ref p_this)]) hx hb dX6_firstTwice_11 rfl hl (by decide) rfl (fun ls hl => ?_)
  have L12 : ∀ (n9_12 : Nat) (x1_12 : Int32) (x2_12 : Int32) (H : Heap) (locs : List Loc), va_P (dC, dI) vwCl [(p_this, .inr (6, [.int d_dishes, .int d_speakers, .ref p_speaker, .int d_noises, .ref p_noise, .int d_askers, .ref p_asker, .ref p_st, .ref p_images, .ref p_isKept, .long d_trace, .ref p_text, .int d_texted, .int d_cursor, .int d_start, .int d_token, .int d_number, .long d_word, .int d_isWrong, .int d_saidDishes, .ref p_saidMount, .int d_saidSpeakers, .ref p_saidSpeaker, .int d_saidNoises, .ref p_saidNoise, .int d_saidAskers, .ref p_saidAsker, .ref p_room, .int d_couldBe, .int d_couldHere])), (p_st, .inl (cI, 104, .inl d_st))] H → va_D A [(p_this, .inr (6, [.int d_dishes, .int d_speakers, .ref p_speaker, .int d_noises, .ref p_noise, .int d_askers, .ref p_asker, .ref p_st, .ref p_images, .ref p_isKept, .long d_trace, .ref p_text, .int d_texted, .int d_cursor, .int d_start, .int d_token, .int d_number, .long d_word, .int d_isWrong, .int d_saidDishes, .ref p_saidMount, .int d_saidSpeakers, .ref p_saidSpeaker, .int d_saidNoises, .ref p_saidNoise, .int d_saidAskers, .ref p_saidAsker, .ref p_room, .int d_couldBe, .int d_couldHere])), (p_st, .inl (cI, 104, .inl d_st))] → va_S A s.heap H locs → ∀ ls : Array Slot, lv_has ls 5 [(0, .ref p_this), (1, .int x1_12), (2, .int x2_12)] → f_X6_firstTwice_L12 d_st n9_12 x1_12 x2_12 = some out → W p l e ({ frames := 0, cells := 0, slots := 0, locals := 0 } : Room) s m ([.ref p_this] : List Value).toArray below meth c H locs 0 0 Q (F0 m 12 ls []) := by
    intro n9_12
    induction n9_12 with
    | zero =>
      intro x1_12 x2_12 H locs hP hD hS ls hl hrun
      rw [f_X6_firstTwice_L12] at hrun
      cases hrun
    | succ n9_12 ih12 =>
      intro x1_12 x2_12 H locs hP hD hS ls hl hrun
      rw [f_X6_firstTwice_L12] at hrun
      refine lv_iload_n hx hb dX6_firstTwice_12 rfl (lv_at hl 2 rfl) ?_
      refine lv_if_le (tgt := 107) hx hb dX6_firstTwice_13 (by decide) (fun c_13 => ?_) (fun c_13 => ?_)
      · rw [if_pos c_13] at hrun
        refine lv_iload_n hx hb dX6_firstTwice_107 rfl (lv_at hl 1 rfl) ?_
        have hrun := Option.some.inj hrun
        subst hrun
        rw [hQ]
        exact W.iret (v := x1_12) hx hb hr (fun t ht hW => ⟨⟨x1_12, (), rfl, rfl, by rw [ht]; exact hP, hD⟩, hS.F ht⟩) hS.2.2 dX6_firstTwice_108
      · rw [if_neg c_13] at hrun
        refine lv_iconst (v := 0) hx hb dX6_firstTwice_16 (by decide) ?_
        refine lv_istore_n (lv' := [(3, .int 0), (0, .ref p_this), (1, .int x1_12), (2, .int x2_12)]) hx hb dX6_firstTwice_17 rfl hl (by decide) rfl (fun ls hl => ?_)
        have X101 : ∀ (x1_101 : Int32) (H : Heap) (locs : List Loc), va_P (dC, dI) vwCl [(p_this, .inr (6, [.int d_dishes, .int d_speakers, .ref p_speaker, .int d_noises, .ref p_noise, .int d_askers, .ref p_asker, .ref p_st, .ref p_images, .ref p_isKept, .long d_trace, .ref p_text, .int d_texted, .int d_cursor, .int d_start, .int d_token, .int d_number, .long d_word, .int d_isWrong, .int d_saidDishes, .ref p_saidMount, .int d_saidSpeakers, .ref p_saidSpeaker, .int d_saidNoises, .ref p_saidNoise, .int d_saidAskers, .ref p_saidAsker, .ref p_room, .int d_couldBe, .int d_couldHere])), (p_st, .inl (cI, 104, .inl d_st))] H → va_D A [(p_this, .inr (6, [.int d_dishes, .int d_speakers, .ref p_speaker, .int d_noises, .ref p_noise, .int d_askers, .ref p_asker, .ref p_st, .ref p_images, .ref p_isKept, .long d_trace, .ref p_text, .int d_texted, .int d_cursor, .int d_start, .int d_token, .int d_number, .long d_word, .int d_isWrong, .int d_saidDishes, .ref p_saidMount, .int d_saidSpeakers, .ref p_saidSpeaker, .int d_saidNoises, .ref p_saidNoise, .int d_saidAskers, .ref p_saidAsker, .ref p_room, .int d_couldBe, .int d_couldHere])), (p_st, .inl (cI, 104, .inl d_st))] → va_S A s.heap H locs → ∀ ls : Array Slot, lv_has ls 5 [(0, .ref p_this), (1, .int x1_101), (2, .int x2_12)] → f_X6_firstTwice_X101 (f_X6_firstTwice_L12 d_st n9_12) x2_12 d_st x1_101 = some out → W p l e ({ frames := 0, cells := 0, slots := 0, locals := 0 } : Room) s m ([.ref p_this] : List Value).toArray below meth c H locs 0 0 Q (F0 m 101 ls []) := by
          intro x1_101 H locs hP hD hS ls hl hrun
          rw [f_X6_firstTwice_X101] at hrun
          refine lv_iinc (v := x2_12 + (-1)) (lv' := [(2, .int (x2_12 + (-1))), (0, .ref p_this), (1, .int x1_101)]) hx hb dX6_firstTwice_101 hl (k := 2) rfl rfl (by decide) rfl (fun ls hl => ?_)
          refine lv_goto (tgt := 12) hx hb dX6_firstTwice_104 (by decide) ?_
          exact ih12 x1_101 (x2_12 + (-1)) H locs hP hD hS ls (lv_sub hl [1, 2, 0] rfl) hrun
        have L18 : ∀ (n9_18 : Nat) (x1_18 : Int32) (x3_18 : Int32) (H : Heap) (locs : List Loc), va_P (dC, dI) vwCl [(p_this, .inr (6, [.int d_dishes, .int d_speakers, .ref p_speaker, .int d_noises, .ref p_noise, .int d_askers, .ref p_asker, .ref p_st, .ref p_images, .ref p_isKept, .long d_trace, .ref p_text, .int d_texted, .int d_cursor, .int d_start, .int d_token, .int d_number, .long d_word, .int d_isWrong, .int d_saidDishes, .ref p_saidMount, .int d_saidSpeakers, .ref p_saidSpeaker, .int d_saidNoises, .ref p_saidNoise, .int d_saidAskers, .ref p_saidAsker, .ref p_room, .int d_couldBe, .int d_couldHere])), (p_st, .inl (cI, 104, .inl d_st))] H → va_D A [(p_this, .inr (6, [.int d_dishes, .int d_speakers, .ref p_speaker, .int d_noises, .ref p_noise, .int d_askers, .ref p_asker, .ref p_st, .ref p_images, .ref p_isKept, .long d_trace, .ref p_text, .int d_texted, .int d_cursor, .int d_start, .int d_token, .int d_number, .long d_word, .int d_isWrong, .int d_saidDishes, .ref p_saidMount, .int d_saidSpeakers, .ref p_saidSpeaker, .int d_saidNoises, .ref p_saidNoise, .int d_saidAskers, .ref p_saidAsker, .ref p_room, .int d_couldBe, .int d_couldHere])), (p_st, .inl (cI, 104, .inl d_st))] → va_S A s.heap H locs → ∀ ls : Array Slot, lv_has ls 5 [(0, .ref p_this), (1, .int x1_18), (2, .int x2_12), (3, .int x3_18)] → f_X6_firstTwice_L18 (f_X6_firstTwice_X101 (f_X6_firstTwice_L12 d_st n9_12) x2_12 d_st) x2_12 d_st n9_18 x1_18 x3_18 = some out → W p l e ({ frames := 0, cells := 0, slots := 0, locals := 0 } : Room) s m ([.ref p_this] : List Value).toArray below meth c H locs 0 0 Q (F0 m 18 ls []) := by
          intro n9_18
          induction n9_18 with
          | zero =>
            intro x1_18 x3_18 H locs hP hD hS ls hl hrun
            rw [f_X6_firstTwice_L18] at hrun
            cases hrun
          | succ n9_18 ih18 =>
            intro x1_18 x3_18 H locs hP hD hS ls hl hrun
            rw [f_X6_firstTwice_L18] at hrun
            refine lv_iload_n hx hb dX6_firstTwice_18 rfl (lv_at hl 3 rfl) ?_
            refine lv_iload_n hx hb dX6_firstTwice_19 rfl (lv_at hl 2 rfl) ?_
            refine lv_icmp_ge (tgt := 101) hx hb dX6_firstTwice_20 (by decide) (fun c_20 => ?_) (fun c_20 => ?_)
            · rw [if_pos c_20] at hrun
              exact X101 x1_18 H locs hP hD hS ls (lv_sub hl [0, 1, 2] rfl) hrun
            · rw [if_neg c_20] at hrun
              refine lv_aload_n hx hb dX6_firstTwice_23 rfl (lv_at hl 0 rfl) ?_
              refine va_get (D := (dC, dI)) (ci := 6) (v := .ref p_st) (C := RX6) (T := TX6) (N := 30) hx hb hts iwX6 hown hK hP 0 rfl rfl 7 (by decide) (hts (.fieldLink RX6 19 "SkyListenersModel" "st" "[I") (by decide +kernel)) (fun _ h9 => h9) rfl dX6_firstTwice_24 ?_
              refine lv_bipush (v := 8) hx hb dX6_firstTwice_27 (by decide) ?_
              refine lv_iconst (v := 3) hx hb dX6_firstTwice_29 (by decide) ?_
              refine lv_iload_n hx hb dX6_firstTwice_30 rfl (lv_at hl 2 rfl) ?_
              refine lv_imul hx hb dX6_firstTwice_31 ?_
              refine lv_iadd hx hb dX6_firstTwice_32 ?_
              rcases Classical.em ((8 + (3 * x2_12)) < 0 ∨ 104 ≤ (8 + (3 * x2_12)).toNatClampNeg) with g_33 | g_33
              · rw [if_pos g_33] at hrun; cases hrun
              rw [if_neg g_33] at hrun
              refine va_iald hx hb hK hP 1 0 rfl rfl g_33 dX6_firstTwice_33 ?_
              refine lv_aload_n hx hb dX6_firstTwice_34 rfl (lv_at hl 0 rfl) ?_
              refine va_get (D := (dC, dI)) (ci := 6) (v := .ref p_st) (C := RX6) (T := TX6) (N := 30) hx hb hts iwX6 hown hK hP 0 rfl rfl 7 (by decide) (hts (.fieldLink RX6 19 "SkyListenersModel" "st" "[I") (by decide +kernel)) (fun _ h9 => h9) rfl dX6_firstTwice_35 ?_
              refine lv_bipush (v := 8) hx hb dX6_firstTwice_38 (by decide) ?_
              refine lv_iconst (v := 3) hx hb dX6_firstTwice_40 (by decide) ?_
              refine lv_iload_n hx hb dX6_firstTwice_41 rfl (lv_at hl 3 rfl) ?_
              refine lv_imul hx hb dX6_firstTwice_42 ?_
              refine lv_iadd hx hb dX6_firstTwice_43 ?_
              rcases Classical.em ((8 + (3 * x3_18)) < 0 ∨ 104 ≤ (8 + (3 * x3_18)).toNatClampNeg) with g_44 | g_44
              · rw [if_pos g_44] at hrun; cases hrun
              rw [if_neg g_44] at hrun
              refine va_iald hx hb hK hP 1 0 rfl rfl g_44 dX6_firstTwice_44 ?_
              have J82 : ∀ (t0_82 : Int32) (H : Heap) (locs : List Loc), va_P (dC, dI) vwCl [(p_this, .inr (6, [.int d_dishes, .int d_speakers, .ref p_speaker, .int d_noises, .ref p_noise, .int d_askers, .ref p_asker, .ref p_st, .ref p_images, .ref p_isKept, .long d_trace, .ref p_text, .int d_texted, .int d_cursor, .int d_start, .int d_token, .int d_number, .long d_word, .int d_isWrong, .int d_saidDishes, .ref p_saidMount, .int d_saidSpeakers, .ref p_saidSpeaker, .int d_saidNoises, .ref p_saidNoise, .int d_saidAskers, .ref p_saidAsker, .ref p_room, .int d_couldBe, .int d_couldHere])), (p_st, .inl (cI, 104, .inl d_st))] H → va_D A [(p_this, .inr (6, [.int d_dishes, .int d_speakers, .ref p_speaker, .int d_noises, .ref p_noise, .int d_askers, .ref p_asker, .ref p_st, .ref p_images, .ref p_isKept, .long d_trace, .ref p_text, .int d_texted, .int d_cursor, .int d_start, .int d_token, .int d_number, .long d_word, .int d_isWrong, .int d_saidDishes, .ref p_saidMount, .int d_saidSpeakers, .ref p_saidSpeaker, .int d_saidNoises, .ref p_saidNoise, .int d_saidAskers, .ref p_saidAsker, .ref p_room, .int d_couldBe, .int d_couldHere])), (p_st, .inl (cI, 104, .inl d_st))] → va_S A s.heap H locs → ∀ ls : Array Slot, lv_has ls 5 [(0, .ref p_this), (1, .int x1_18), (2, .int x2_12), (3, .int x3_18)] → f_X6_firstTwice_J82 (f_X6_firstTwice_L18 (f_X6_firstTwice_X101 (f_X6_firstTwice_L12 d_st n9_12) x2_12 d_st) x2_12 d_st n9_18) x1_18 x2_12 x3_18 d_st t0_82 = some out → W p l e ({ frames := 0, cells := 0, slots := 0, locals := 0 } : Room) s m ([.ref p_this] : List Value).toArray below meth c H locs 0 0 Q (F0 m 82 ls [.int t0_82]) := by
                intro t0_82 H locs hP hD hS ls hl hrun
                rw [f_X6_firstTwice_J82] at hrun
                refine lv_istore (lv' := [(4, .int t0_82), (0, .ref p_this), (1, .int x1_18), (2, .int x2_12), (3, .int x3_18)]) hx hb dX6_firstTwice_82 hl (by decide) rfl (fun ls hl => ?_)
                refine lv_iload hx hb dX6_firstTwice_84 (lv_at hl 0 rfl) ?_
                have J94 : ∀ (t0_94 : Int32) (H : Heap) (locs : List Loc), va_P (dC, dI) vwCl [(p_this, .inr (6, [.int d_dishes, .int d_speakers, .ref p_speaker, .int d_noises, .ref p_noise, .int d_askers, .ref p_asker, .ref p_st, .ref p_images, .ref p_isKept, .long d_trace, .ref p_text, .int d_texted, .int d_cursor, .int d_start, .int d_token, .int d_number, .long d_word, .int d_isWrong, .int d_saidDishes, .ref p_saidMount, .int d_saidSpeakers, .ref p_saidSpeaker, .int d_saidNoises, .ref p_saidNoise, .int d_saidAskers, .ref p_saidAsker, .ref p_room, .int d_couldBe, .int d_couldHere])), (p_st, .inl (cI, 104, .inl d_st))] H → va_D A [(p_this, .inr (6, [.int d_dishes, .int d_speakers, .ref p_speaker, .int d_noises, .ref p_noise, .int d_askers, .ref p_asker, .ref p_st, .ref p_images, .ref p_isKept, .long d_trace, .ref p_text, .int d_texted, .int d_cursor, .int d_start, .int d_token, .int d_number, .long d_word, .int d_isWrong, .int d_saidDishes, .ref p_saidMount, .int d_saidSpeakers, .ref p_saidSpeaker, .int d_saidNoises, .ref p_saidNoise, .int d_saidAskers, .ref p_saidAsker, .ref p_room, .int d_couldBe, .int d_couldHere])), (p_st, .inl (cI, 104, .inl d_st))] → va_S A s.heap H locs → ∀ ls : Array Slot, lv_has ls 5 [(0, .ref p_this), (2, .int x2_12), (3, .int x3_18)] → f_X6_firstTwice_J94 (f_X6_firstTwice_L18 (f_X6_firstTwice_X101 (f_X6_firstTwice_L12 d_st n9_12) x2_12 d_st) x2_12 d_st n9_18) x2_12 x3_18 d_st t0_94 = some out → W p l e ({ frames := 0, cells := 0, slots := 0, locals := 0 } : Room) s m ([.ref p_this] : List Value).toArray below meth c H locs 0 0 Q (F0 m 94 ls [.int t0_94]) := by
                  intro t0_94 H locs hP hD hS ls hl hrun
                  rw [f_X6_firstTwice_J94] at hrun
                  refine lv_istore_n (lv' := [(1, .int t0_94), (0, .ref p_this), (2, .int x2_12), (3, .int x3_18)]) hx hb dX6_firstTwice_94 rfl hl (by decide) rfl (fun ls hl => ?_)
                  refine lv_iinc (v := x3_18 + 1) (lv' := [(3, .int (x3_18 + 1)), (1, .int t0_94), (0, .ref p_this), (2, .int x2_12)]) hx hb dX6_firstTwice_95 hl (k := 3) rfl rfl (by decide) rfl (fun ls hl => ?_)
                  refine lv_goto (tgt := 18) hx hb dX6_firstTwice_98 (by decide) ?_
                  exact ih18 t0_94 (x3_18 + 1) H locs hP hD hS ls (lv_sub hl [2, 1, 3, 0] rfl) hrun
                refine lv_if_eq (tgt := 93) hx hb dX6_firstTwice_86 (by decide) (fun c_86 => ?_) (fun c_86 => ?_)
                · rw [if_pos c_86] at hrun
                  refine lv_iload_n hx hb dX6_firstTwice_93 rfl (lv_at hl 2 rfl) ?_
                  exact J94 x1_18 H locs hP hD hS ls (lv_sub hl [1, 3, 4] rfl) hrun
                · rw [if_neg c_86] at hrun
                  refine lv_iload_n hx hb dX6_firstTwice_89 rfl (lv_at hl 3 rfl) ?_
                  refine lv_goto (tgt := 94) hx hb dX6_firstTwice_90 (by decide) ?_
                  exact J94 x2_12 H locs hP hD hS ls (lv_sub hl [1, 3, 4] rfl) hrun
              refine lv_icmp_ne (tgt := 81) hx hb dX6_firstTwice_45 (by decide) (fun c_45 => ?_) (fun c_45 => ?_)
              · rw [if_neg c_45] at hrun
                refine lv_iconst (v := 0) hx hb dX6_firstTwice_81 (by decide) ?_
                exact J82 0 H locs hP hD hS ls hl hrun
              · rw [if_pos c_45] at hrun
                refine lv_aload_n hx hb dX6_firstTwice_48 rfl (lv_at hl 0 rfl) ?_
                refine va_get (D := (dC, dI)) (ci := 6) (v := .ref p_st) (C := RX6) (T := TX6) (N := 30) hx hb hts iwX6 hown hK hP 0 rfl rfl 7 (by decide) (hts (.fieldLink RX6 19 "SkyListenersModel" "st" "[I") (by decide +kernel)) (fun _ h9 => h9) rfl dX6_firstTwice_49 ?_
                refine lv_bipush (v := 8) hx hb dX6_firstTwice_52 (by decide) ?_
                refine lv_iconst (v := 3) hx hb dX6_firstTwice_54 (by decide) ?_
                refine lv_iload_n hx hb dX6_firstTwice_55 rfl (lv_at hl 2 rfl) ?_
                refine lv_imul hx hb dX6_firstTwice_56 ?_
                refine lv_iadd hx hb dX6_firstTwice_57 ?_
                refine lv_iconst (v := 1) hx hb dX6_firstTwice_58 (by decide) ?_
                refine lv_iadd hx hb dX6_firstTwice_59 ?_
                rcases Classical.em (((8 + (3 * x2_12)) + 1) < 0 ∨ 104 ≤ ((8 + (3 * x2_12)) + 1).toNatClampNeg) with g_60 | g_60
                · rw [if_pos g_60] at hrun; cases hrun
                rw [if_neg g_60] at hrun
                refine va_iald hx hb hK hP 1 0 rfl rfl g_60 dX6_firstTwice_60 ?_
                refine lv_aload_n hx hb dX6_firstTwice_61 rfl (lv_at hl 0 rfl) ?_
                refine va_get (D := (dC, dI)) (ci := 6) (v := .ref p_st) (C := RX6) (T := TX6) (N := 30) hx hb hts iwX6 hown hK hP 0 rfl rfl 7 (by decide) (hts (.fieldLink RX6 19 "SkyListenersModel" "st" "[I") (by decide +kernel)) (fun _ h9 => h9) rfl dX6_firstTwice_62 ?_
                refine lv_bipush (v := 8) hx hb dX6_firstTwice_65 (by decide) ?_
                refine lv_iconst (v := 3) hx hb dX6_firstTwice_67 (by decide) ?_
                refine lv_iload_n hx hb dX6_firstTwice_68 rfl (lv_at hl 3 rfl) ?_
                refine lv_imul hx hb dX6_firstTwice_69 ?_
                refine lv_iadd hx hb dX6_firstTwice_70 ?_
                refine lv_iconst (v := 1) hx hb dX6_firstTwice_71 (by decide) ?_
                refine lv_iadd hx hb dX6_firstTwice_72 ?_
                rcases Classical.em (((8 + (3 * x3_18)) + 1) < 0 ∨ 104 ≤ ((8 + (3 * x3_18)) + 1).toNatClampNeg) with g_73 | g_73
                · rw [if_pos g_73] at hrun; cases hrun
                rw [if_neg g_73] at hrun
                refine va_iald hx hb hK hP 1 0 rfl rfl g_73 dX6_firstTwice_73 ?_
                refine lv_icmp_ne (tgt := 81) hx hb dX6_firstTwice_74 (by decide) (fun c_74 => ?_) (fun c_74 => ?_)
                · rw [if_neg c_74] at hrun
                  refine lv_iconst (v := 0) hx hb dX6_firstTwice_81 (by decide) ?_
                  exact J82 0 H locs hP hD hS ls hl hrun
                · rw [if_pos c_74] at hrun
                  refine lv_iconst (v := 1) hx hb dX6_firstTwice_77 (by decide) ?_
                  refine lv_goto (tgt := 82) hx hb dX6_firstTwice_78 (by decide) ?_
                  exact J82 1 H locs hP hD hS ls hl hrun
        exact L18 FU x1_12 0 H locs hP hD hS ls (lv_sub hl [1, 2, 3, 0] rfl) hrun
  exact L12 FU (-9) ((d_st (Int32.toNatClampNeg 0)) - 1) H locs hP hD hS ls (lv_sub hl [2, 1, 0] rfl) hrun
-- SkyListenersModel.inVain
def f_X6_inVain_J63 (K4 : Int32 → Int32 → Option (Int32)) (x2 : Int32) (t0 : Int32) (d_asker : Nat → Int32) (d_st : Nat → Int32) (t1 : Int32) : Option (Int32) := (K4 (t0 + t1) (x2 + 1))
def f_X6_inVain_L4 (d_asker : Nat → Int32) (d_st : Nat → Int32) : Nat → Int32 → Int32 → Option (Int32)
  | 0, _, _ => none
  | n9 + 1, x1, x2 => (if (d_st (Int32.toNatClampNeg 0)) ≤ x2 then (some x1) else (if (8 + (3 * x2)) < 0 ∨ 104 ≤ (8 + (3 * x2)).toNatClampNeg then none else (if ((8 + (3 * x2)) + 1) < 0 ∨ 104 ≤ ((8 + (3 * x2)) + 1).toNatClampNeg then none else ((f_X6_looksOf d_st (d_st (8 + (3 * x2)).toNatClampNeg) (d_st ((8 + (3 * x2)) + 1).toNatClampNeg)).bind fun q37 => (if ((8 + (3 * x2)) + 2) < 0 ∨ 104 ≤ ((8 + (3 * x2)) + 2).toNatClampNeg then none else (if (2 * (d_st ((8 + (3 * x2)) + 2).toNatClampNeg)) < 0 ∨ 10 ≤ (2 * (d_st ((8 + (3 * x2)) + 2).toNatClampNeg)).toNatClampNeg then none else (if q37 = (d_asker (2 * (d_st ((8 + (3 * x2)) + 2).toNatClampNeg)).toNatClampNeg) then (f_X6_inVain_J63 (f_X6_inVain_L4  d_asker d_st n9) x2 x1 d_asker d_st 0) else (f_X6_inVain_J63 (f_X6_inVain_L4  d_asker d_st n9) x2 x1 d_asker d_st 1))))))))
def f_X6_inVain (d_asker : Nat → Int32) (d_st : Nat → Int32) : Option (Int32) := (f_X6_inVain_L4 d_asker d_st FU 0 0)
set_option maxHeartbeats 4000000 in
set_option maxRecDepth 100000 in
theorem c_X6_inVain (l : Launch) (dC : Nat → ClassId) (dI : Nat → Nat → Nat) (cI cZ : ClassId) (sz : Nat) (p_asker p_images p_isKept p_noise p_room p_saidAsker p_saidMount p_saidNoise p_saidSpeaker p_speaker p_st p_text p_this : Nat) (d_dishes : Int32) (d_speakers : Int32) (d_noises : Int32) (d_askers : Int32) (d_trace : Int64) (d_texted : Int32) (d_cursor : Int32) (d_start : Int32) (d_token : Int32) (d_number : Int32) (d_word : Int64) (d_isWrong : Int32) (d_saidDishes : Int32) (d_saidSpeakers : Int32) (d_saidNoises : Int32) (d_saidAskers : Int32) (d_couldBe : Int32) (d_couldHere : Int32) (d_asker : Nat → Int32) (d_st : Nat → Int32) (out : Int32) (hrun : f_X6_inVain d_asker d_st = some out) : Met l yX6_inVain wsX6_inVain ({ frames := 1, cells := 0, slots := 0, locals := 22 } : Room) (va_Pc [.ref p_this] (PC dC dI cI cZ sz ([(p_this, .inr (6, [.int d_dishes, .int d_speakers, .ref p_speaker, .int d_noises, .ref p_noise, .int d_askers, .ref p_asker, .ref p_st, .ref p_images, .ref p_isKept, .long d_trace, .ref p_text, .int d_texted, .int d_cursor, .int d_start, .int d_token, .int d_number, .long d_word, .int d_isWrong, .int d_saidDishes, .ref p_saidMount, .int d_saidSpeakers, .ref p_saidSpeaker, .int d_saidNoises, .ref p_saidNoise, .int d_saidAskers, .ref p_saidAsker, .ref p_room, .int d_couldBe, .int d_couldHere])), (p_asker, .inl (cI, 10, .inl d_asker)), (p_st, .inl (cI, 104, .inl d_st))] : va_W))) (va_Qi (fun r (_ : Unit) => r = out) (fun _ t => va_P (dC, dI) vwCl [(p_this, .inr (6, [.int d_dishes, .int d_speakers, .ref p_speaker, .int d_noises, .ref p_noise, .int d_askers, .ref p_asker, .ref p_st, .ref p_images, .ref p_isKept, .long d_trace, .ref p_text, .int d_texted, .int d_cursor, .int d_start, .int d_token, .int d_number, .long d_word, .int d_isWrong, .int d_saidDishes, .ref p_saidMount, .int d_saidSpeakers, .ref p_saidSpeaker, .int d_saidNoises, .ref p_saidNoise, .int d_saidAskers, .ref p_saidAsker, .ref p_room, .int d_couldBe, .int d_couldHere])), (p_asker, .inl (cI, 10, .inl d_asker)), (p_st, .inl (cI, 104, .inl d_st))] t.heap ∧ va_D (va_A ([(p_this, .inr (6, [.int d_dishes, .int d_speakers, .ref p_speaker, .int d_noises, .ref p_noise, .int d_askers, .ref p_asker, .ref p_st, .ref p_images, .ref p_isKept, .long d_trace, .ref p_text, .int d_texted, .int d_cursor, .int d_start, .int d_token, .int d_number, .long d_word, .int d_isWrong, .int d_saidDishes, .ref p_saidMount, .int d_saidSpeakers, .ref p_saidSpeaker, .int d_saidNoises, .ref p_saidNoise, .int d_saidAskers, .ref p_saidAsker, .ref p_room, .int d_couldBe, .int d_couldHere])), (p_asker, .inl (cI, 10, .inl d_asker)), (p_st, .inl (cI, 104, .inl d_st))] : va_W) sz) [(p_this, .inr (6, [.int d_dishes, .int d_speakers, .ref p_speaker, .int d_noises, .ref p_noise, .int d_askers, .ref p_asker, .ref p_st, .ref p_images, .ref p_isKept, .long d_trace, .ref p_text, .int d_texted, .int d_cursor, .int d_start, .int d_token, .int d_number, .long d_word, .int d_isWrong, .int d_saidDishes, .ref p_saidMount, .int d_saidSpeakers, .ref p_saidSpeaker, .int d_saidNoises, .ref p_saidNoise, .int d_saidAskers, .ref p_saidAsker, .ref p_room, .int d_couldBe, .int d_couldHere])), (p_asker, .inl (cI, 10, .inl d_asker)), (p_st, .inl (cI, 104, .inl d_st))]) (va_A ([(p_this, .inr (6, [.int d_dishes, .int d_speakers, .ref p_speaker, .int d_noises, .ref p_noise, .int d_askers, .ref p_asker, .ref p_st, .ref p_images, .ref p_isKept, .long d_trace, .ref p_text, .int d_texted, .int d_cursor, .int d_start, .int d_token, .int d_number, .long d_word, .int d_isWrong, .int d_saidDishes, .ref p_saidMount, .int d_saidSpeakers, .ref p_saidSpeaker, .int d_saidNoises, .ref p_saidNoise, .int d_saidAskers, .ref p_saidAsker, .ref p_room, .int d_couldBe, .int d_couldHere])), (p_asker, .inl (cI, 10, .inl d_asker)), (p_st, .inl (cI, 104, .inl d_st))] : va_W) sz)) 0 0 (va_A ([(p_this, .inr (6, [.int d_dishes, .int d_speakers, .ref p_speaker, .int d_noises, .ref p_noise, .int d_askers, .ref p_asker, .ref p_st, .ref p_images, .ref p_isKept, .long d_trace, .ref p_text, .int d_texted, .int d_cursor, .int d_start, .int d_token, .int d_number, .long d_word, .int d_isWrong, .int d_saidDishes, .ref p_saidMount, .int d_saidSpeakers, .ref p_saidSpeaker, .int d_saidNoises, .ref p_saidNoise, .int d_saidAskers, .ref p_saidAsker, .ref p_room, .int d_couldBe, .int d_couldHere])), (p_asker, .inl (cI, 10, .inl d_asker)), (p_st, .inl (cI, 104, .inl d_st))] : va_W) sz) := by
  refine Met.ofW (cc := cX6_inVain) (maxL := 4) (ret := (some .int)) (by decide) rfl ?_
  intro p e s m args below meth c s₁ B hml hv
  obtain ⟨rfl, hsz, hP, hK, hD0, hN⟩ := hv
  have hx := B.exec
  have hb := B.bytes
  have hr := B.returns
  have hts := atoms_spec (ws := wsX6_inVain) B.pre
  have hown : s.vm.findClass RX6 = some m.cls := findClass_of_methodNamed B.named
  have hlocks := B.notSynchronized
  subst hsz
  have hD := hD0.self (sz := s.heap.size)
  generalize hAe : va_A ([(p_this, .inr (6, [.int d_dishes, .int d_speakers, .ref p_speaker, .int d_noises, .ref p_noise, .int d_askers, .ref p_asker, .ref p_st, .ref p_images, .ref p_isKept, .long d_trace, .ref p_text, .int d_texted, .int d_cursor, .int d_start, .int d_token, .int d_number, .long d_word, .int d_isWrong, .int d_saidDishes, .ref p_saidMount, .int d_saidSpeakers, .ref p_saidSpeaker, .int d_saidNoises, .ref p_saidNoise, .int d_saidAskers, .ref p_saidAsker, .ref p_room, .int d_couldBe, .int d_couldHere])), (p_asker, .inl (cI, 10, .inl d_asker)), (p_st, .inl (cI, 104, .inl d_st))] : va_W) s.heap.size = A at hD ⊢
  have hA : ∀ q : Nat, s.heap.size ≤ q → A q := fun q h => by rw [← hAe]; exact Or.inr h
  have hS : va_S A s.heap s.heap [] := va_S.rf
  refine W_abs (fun Q hQ => ?_)
  have hl := lv_entry ([.ref p_this]) (n := 4) (Nat.le_of_ble_eq_true rfl)
  rw [lg_entry_eq]
  generalize (lg_sl ([.ref p_this]) ++ List.replicate (4 - (lg_sl ([.ref p_this])).length) Slot.unset).toArray = ls at hl ⊢
  have hl : lv_has ls 4 [(0, .ref p_this)] := hl
  rw [f_X6_inVain] at hrun
  refine W_start (ws := [(p_this, .inr (6, [.int d_dishes, .int d_speakers, .ref p_speaker, .int d_noises, .ref p_noise, .int d_askers, .ref p_asker, .ref p_st, .ref p_images, .ref p_isKept, .long d_trace, .ref p_text, .int d_texted, .int d_cursor, .int d_start, .int d_token, .int d_number, .long d_word, .int d_isWrong, .int d_saidDishes, .ref p_saidMount, .int d_saidSpeakers, .ref p_saidSpeaker, .int d_saidNoises, .ref p_saidNoise, .int d_saidAskers, .ref p_saidAsker, .ref p_room, .int d_couldBe, .int d_couldHere])), (p_asker, .inl (cI, 10, .inl d_asker)), (p_st, .inl (cI, 104, .inl d_st))]) hP hS (fun H locs hP hS => ?_)
  have iwX6 : ∀ w ∈ wsX60, w ∈ wsX6_inVain := by decide +kernel
  refine lv_iconst (v := 0) hx hb dX6_inVain_0 (by decide) ?_
  refine lv_istore_n (lv' := [(1, .int 0), (0, .ref p_this)]) hx hb dX6_inVain_1 rfl hl (by decide) rfl (fun ls hl => ?_)
  refine lv_iconst (v := 0) hx hb dX6_inVain_2 (by decide) ?_
  refine lv_istore_n (lv' := [(2, .int 0), (1, .int 0), (0, .ref p_this)]) hx hb dX6_inVain_3 rfl hl (by decide) rfl (fun ls hl => ?_)
  have L4 : ∀ (n9_4 : Nat) (x1_4 : Int32) (x2_4 : Int32) (H : Heap) (locs : List Loc), va_P (dC, dI) vwCl [(p_this, .inr (6, [.int d_dishes, .int d_speakers, .ref p_speaker, .int d_noises, .ref p_noise, .int d_askers, .ref p_asker, .ref p_st, .ref p_images, .ref p_isKept, .long d_trace, .ref p_text, .int d_texted, .int d_cursor, .int d_start, .int d_token, .int d_number, .long d_word, .int d_isWrong, .int d_saidDishes, .ref p_saidMount, .int d_saidSpeakers, .ref p_saidSpeaker, .int d_saidNoises, .ref p_saidNoise, .int d_saidAskers, .ref p_saidAsker, .ref p_room, .int d_couldBe, .int d_couldHere])), (p_asker, .inl (cI, 10, .inl d_asker)), (p_st, .inl (cI, 104, .inl d_st))] H → va_D A [(p_this, .inr (6, [.int d_dishes, .int d_speakers, .ref p_speaker, .int d_noises, .ref p_noise, .int d_askers, .ref p_asker, .ref p_st, .ref p_images, .ref p_isKept, .long d_trace, .ref p_text, .int d_texted, .int d_cursor, .int d_start, .int d_token, .int d_number, .long d_word, .int d_isWrong, .int d_saidDishes, .ref p_saidMount, .int d_saidSpeakers, .ref p_saidSpeaker, .int d_saidNoises, .ref p_saidNoise, .int d_saidAskers, .ref p_saidAsker, .ref p_room, .int d_couldBe, .int d_couldHere])), (p_asker, .inl (cI, 10, .inl d_asker)), (p_st, .inl (cI, 104, .inl d_st))] → va_S A s.heap H locs → ∀ ls : Array Slot, lv_has ls 4 [(0, .ref p_this), (1, .int x1_4), (2, .int x2_4)] → f_X6_inVain_L4 d_asker d_st n9_4 x1_4 x2_4 = some out → W p l e ({ frames := 1, cells := 0, slots := 0, locals := 22 } : Room) s m ([.ref p_this] : List Value).toArray below meth c H locs 0 0 Q (F0 m 4 ls []) := by
    intro n9_4
    induction n9_4 with
    | zero =>
      intro x1_4 x2_4 H locs hP hD hS ls hl hrun
      rw [f_X6_inVain_L4] at hrun
      cases hrun
    | succ n9_4 ih4 =>
      intro x1_4 x2_4 H locs hP hD hS ls hl hrun
      rw [f_X6_inVain_L4] at hrun
      refine lv_iload_n hx hb dX6_inVain_4 rfl (lv_at hl 2 rfl) ?_
      refine lv_aload_n hx hb dX6_inVain_5 rfl (lv_at hl 0 rfl) ?_
      refine va_get (D := (dC, dI)) (ci := 6) (v := .ref p_st) (C := RX6) (T := TX6) (N := 30) hx hb hts iwX6 hown hK hP 0 rfl rfl 7 (by decide) (hts (.fieldLink RX6 19 "SkyListenersModel" "st" "[I") (by decide +kernel)) (fun _ h9 => h9) rfl dX6_inVain_6 ?_
      refine lv_iconst (v := 0) hx hb dX6_inVain_9 (by decide) ?_
      refine va_iald hx hb hK hP 2 0 rfl rfl (vp_lit (by decide) (by decide)) dX6_inVain_10 ?_
      refine lv_icmp_ge (tgt := 71) hx hb dX6_inVain_11 (by decide) (fun c_11 => ?_) (fun c_11 => ?_)
      · rw [if_pos c_11] at hrun
        refine lv_iload_n hx hb dX6_inVain_71 rfl (lv_at hl 1 rfl) ?_
        have hrun := Option.some.inj hrun
        subst hrun
        rw [hQ]
        exact W.iret (v := x1_4) hx hb hr (fun t ht hW => ⟨⟨x1_4, (), rfl, rfl, by rw [ht]; exact hP, hD⟩, hS.F ht⟩) hS.2.2 dX6_inVain_72
      · rw [if_neg c_11] at hrun
        refine lv_bipush (v := 8) hx hb dX6_inVain_14 (by decide) ?_
        refine lv_iconst (v := 3) hx hb dX6_inVain_16 (by decide) ?_
        refine lv_iload_n hx hb dX6_inVain_17 rfl (lv_at hl 2 rfl) ?_
        refine lv_imul hx hb dX6_inVain_18 ?_
        refine lv_iadd hx hb dX6_inVain_19 ?_
        refine lv_istore_n (lv' := [(3, .int (8 + (3 * x2_4))), (0, .ref p_this), (1, .int x1_4), (2, .int x2_4)]) hx hb dX6_inVain_20 rfl hl (by decide) rfl (fun ls hl => ?_)
        refine lv_iload_n hx hb dX6_inVain_21 rfl (lv_at hl 2 rfl) ?_
        refine lv_aload_n hx hb dX6_inVain_22 rfl (lv_at hl 1 rfl) ?_
        refine lv_aload_n hx hb dX6_inVain_23 rfl (lv_at hl 1 rfl) ?_
        refine va_get (D := (dC, dI)) (ci := 6) (v := .ref p_st) (C := RX6) (T := TX6) (N := 30) hx hb hts iwX6 hown hK hP 0 rfl rfl 7 (by decide) (hts (.fieldLink RX6 19 "SkyListenersModel" "st" "[I") (by decide +kernel)) (fun _ h9 => h9) rfl dX6_inVain_24 ?_
        refine lv_iload_n hx hb dX6_inVain_27 rfl (lv_at hl 0 rfl) ?_
        rcases Classical.em ((8 + (3 * x2_4)) < 0 ∨ 104 ≤ (8 + (3 * x2_4)).toNatClampNeg) with g_28 | g_28
        · rw [if_pos g_28] at hrun; cases hrun
        rw [if_neg g_28] at hrun
        refine va_iald hx hb hK hP 2 0 rfl rfl g_28 dX6_inVain_28 ?_
        refine lv_aload_n hx hb dX6_inVain_29 rfl (lv_at hl 1 rfl) ?_
        refine va_get (D := (dC, dI)) (ci := 6) (v := .ref p_st) (C := RX6) (T := TX6) (N := 30) hx hb hts iwX6 hown hK hP 0 rfl rfl 7 (by decide) (hts (.fieldLink RX6 19 "SkyListenersModel" "st" "[I") (by decide +kernel)) (fun _ h9 => h9) rfl dX6_inVain_30 ?_
        refine lv_iload_n hx hb dX6_inVain_33 rfl (lv_at hl 0 rfl) ?_
        refine lv_iconst (v := 1) hx hb dX6_inVain_34 (by decide) ?_
        refine lv_iadd hx hb dX6_inVain_35 ?_
        rcases Classical.em (((8 + (3 * x2_4)) + 1) < 0 ∨ 104 ≤ ((8 + (3 * x2_4)) + 1).toNatClampNeg) with g_36 | g_36
        · rw [if_pos g_36] at hrun; cases hrun
        rw [if_neg g_36] at hrun
        refine va_iald hx hb hK hP 2 0 rfl rfl g_36 dX6_inVain_36 ?_
        obtain ⟨q37, hq37, hrun⟩ := bind_out hrun
        have hPc : va_P (dC, dI) vwCl [(p_this, .inr (6, [.int d_dishes, .int d_speakers, .ref p_speaker, .int d_noises, .ref p_noise, .int d_askers, .ref p_asker, .ref p_st, .ref p_images, .ref p_isKept, .long d_trace, .ref p_text, .int d_texted, .int d_cursor, .int d_start, .int d_token, .int d_number, .long d_word, .int d_isWrong, .int d_saidDishes, .ref p_saidMount, .int d_saidSpeakers, .ref p_saidSpeaker, .int d_saidNoises, .ref p_saidNoise, .int d_saidAskers, .ref p_saidAsker, .ref p_room, .int d_couldBe, .int d_couldHere])), (p_st, .inl (cI, 104, .inl d_st))] H := hP.sub [0, 2] rfl
        have hDc : va_D A [(p_this, .inr (6, [.int d_dishes, .int d_speakers, .ref p_speaker, .int d_noises, .ref p_noise, .int d_askers, .ref p_asker, .ref p_st, .ref p_images, .ref p_isKept, .long d_trace, .ref p_text, .int d_texted, .int d_cursor, .int d_start, .int d_token, .int d_number, .long d_word, .int d_isWrong, .int d_saidDishes, .ref p_saidMount, .int d_saidSpeakers, .ref p_saidSpeaker, .int d_saidNoises, .ref p_saidNoise, .int d_saidAskers, .ref p_saidAsker, .ref p_room, .int d_couldBe, .int d_couldHere])), (p_st, .inl (cI, 104, .inl d_st))] := hD.sub [0, 2] (by decide) rfl
        have hFc := va_free (wc := [(p_this, .inr (6, [.int d_dishes, .int d_speakers, .ref p_speaker, .int d_noises, .ref p_noise, .int d_askers, .ref p_asker, .ref p_st, .ref p_images, .ref p_isKept, .long d_trace, .ref p_text, .int d_texted, .int d_cursor, .int d_start, .int d_token, .int d_number, .long d_word, .int d_isWrong, .int d_saidDishes, .ref p_saidMount, .int d_saidSpeakers, .ref p_saidSpeaker, .int d_saidNoises, .ref p_saidNoise, .int d_saidAskers, .ref p_saidAsker, .ref p_room, .int d_couldBe, .int d_couldHere])), (p_st, .inl (cI, 104, .inl d_st))]) hD hS hA [0, 2] rfl
        refine va_calli (va_runV (As := [.int (d_st (8 + (3 * x2_4)).toNatClampNeg), .int (d_st ((8 + (3 * x2_4)) + 1).toNatClampNeg)]) (rest := [.int x1_4]) ⟨hx, hb, hml, hown, hts⟩ (c_X6_looksOf l dC dI cI cZ H.size p_asker p_images p_isKept p_noise p_room p_saidAsker p_saidMount p_saidNoise p_saidSpeaker p_speaker p_st p_text p_this d_dishes d_speakers d_noises d_askers d_trace d_texted d_cursor d_start d_token d_number d_word d_isWrong d_saidDishes d_saidSpeakers d_saidNoises d_saidAskers d_couldBe d_couldHere d_st (d_st (8 + (3 * x2_4)).toNatClampNeg) (d_st ((8 + (3 * x2_4)) + 1).toNatClampNeg) q37 hq37) (cwV 2 hts gX6_inVain_X6_looksOf rfl rfl rfl (by decide +kernel) ⟨Nat.le_of_ble_eq_true rfl, Nat.le_of_ble_eq_true rfl⟩) ⟨fun a U g mk q => ⟨q.1, PC.mv q.2⟩, va_recv hK hP (ci := 6) (q0 := 0) rfl rfl, fun U hU hW => ⟨rfl, PC.of hU hW hPc hK hDc hN⟩⟩ rfl rfl hl.1 rfl (lv_room (Nat.le_of_ble_eq_true rfl)) dX6_inVain_37 ⟨Nat.zero_le _, Nat.zero_le _⟩) hS (fun q _ h => hFc q h) hFc (fun r_37 u t H1 locs ht hvm hw hB hz1 hk1 hS => ?_)
        obtain ⟨hP1, hD1⟩ := hB
        try dsimp only at hw
        rw [hw]
        rw [ht] at hP1
        have hP : va_P (dC, dI) vwCl [(p_this, .inr (6, [.int d_dishes, .int d_speakers, .ref p_speaker, .int d_noises, .ref p_noise, .int d_askers, .ref p_asker, .ref p_st, .ref p_images, .ref p_isKept, .long d_trace, .ref p_text, .int d_texted, .int d_cursor, .int d_start, .int d_token, .int d_number, .long d_word, .int d_isWrong, .int d_saidDishes, .ref p_saidMount, .int d_saidSpeakers, .ref p_saidSpeaker, .int d_saidNoises, .ref p_saidNoise, .int d_saidAskers, .ref p_saidAsker, .ref p_room, .int d_couldBe, .int d_couldHere])), (p_asker, .inl (cI, 10, .inl d_asker)), (p_st, .inl (cI, 104, .inl d_st))] H1 := join_ro hP hD [0, 2] rfl hk1 hP1
        clear hPc hDc hFc hk1 hz1 hP1 hD1 ht hvm
        generalize H1 = H at hP hS ⊢
        refine lv_aload_n hx hb dX6_inVain_40 rfl (lv_at hl 1 rfl) ?_
        refine va_get (D := (dC, dI)) (ci := 6) (v := .ref p_asker) (C := RX6) (T := TX6) (N := 30) hx hb hts iwX6 hown hK hP 0 rfl rfl 6 (by decide) (hts (.fieldLink RX6 16 "SkyListenersModel" "asker" "[I") (by decide +kernel)) (fun _ h9 => h9) rfl dX6_inVain_41 ?_
        refine lv_iconst (v := 2) hx hb dX6_inVain_44 (by decide) ?_
        refine lv_aload_n hx hb dX6_inVain_45 rfl (lv_at hl 1 rfl) ?_
        refine va_get (D := (dC, dI)) (ci := 6) (v := .ref p_st) (C := RX6) (T := TX6) (N := 30) hx hb hts iwX6 hown hK hP 0 rfl rfl 7 (by decide) (hts (.fieldLink RX6 19 "SkyListenersModel" "st" "[I") (by decide +kernel)) (fun _ h9 => h9) rfl dX6_inVain_46 ?_
        refine lv_iload_n hx hb dX6_inVain_49 rfl (lv_at hl 0 rfl) ?_
        refine lv_iconst (v := 2) hx hb dX6_inVain_50 (by decide) ?_
        refine lv_iadd hx hb dX6_inVain_51 ?_
        rcases Classical.em (((8 + (3 * x2_4)) + 2) < 0 ∨ 104 ≤ ((8 + (3 * x2_4)) + 2).toNatClampNeg) with g_52 | g_52
        · rw [if_pos g_52] at hrun; cases hrun
        rw [if_neg g_52] at hrun
        refine va_iald hx hb hK hP 2 0 rfl rfl g_52 dX6_inVain_52 ?_
        refine lv_imul hx hb dX6_inVain_53 ?_
        rcases Classical.em ((2 * (d_st ((8 + (3 * x2_4)) + 2).toNatClampNeg)) < 0 ∨ 10 ≤ (2 * (d_st ((8 + (3 * x2_4)) + 2).toNatClampNeg)).toNatClampNeg) with g_54 | g_54
        · rw [if_pos g_54] at hrun; cases hrun
        rw [if_neg g_54] at hrun
        refine va_iald hx hb hK hP 1 0 rfl rfl g_54 dX6_inVain_54 ?_
        have J63 : ∀ (t1_63 : Int32) (H : Heap) (locs : List Loc), va_P (dC, dI) vwCl [(p_this, .inr (6, [.int d_dishes, .int d_speakers, .ref p_speaker, .int d_noises, .ref p_noise, .int d_askers, .ref p_asker, .ref p_st, .ref p_images, .ref p_isKept, .long d_trace, .ref p_text, .int d_texted, .int d_cursor, .int d_start, .int d_token, .int d_number, .long d_word, .int d_isWrong, .int d_saidDishes, .ref p_saidMount, .int d_saidSpeakers, .ref p_saidSpeaker, .int d_saidNoises, .ref p_saidNoise, .int d_saidAskers, .ref p_saidAsker, .ref p_room, .int d_couldBe, .int d_couldHere])), (p_asker, .inl (cI, 10, .inl d_asker)), (p_st, .inl (cI, 104, .inl d_st))] H → va_D A [(p_this, .inr (6, [.int d_dishes, .int d_speakers, .ref p_speaker, .int d_noises, .ref p_noise, .int d_askers, .ref p_asker, .ref p_st, .ref p_images, .ref p_isKept, .long d_trace, .ref p_text, .int d_texted, .int d_cursor, .int d_start, .int d_token, .int d_number, .long d_word, .int d_isWrong, .int d_saidDishes, .ref p_saidMount, .int d_saidSpeakers, .ref p_saidSpeaker, .int d_saidNoises, .ref p_saidNoise, .int d_saidAskers, .ref p_saidAsker, .ref p_room, .int d_couldBe, .int d_couldHere])), (p_asker, .inl (cI, 10, .inl d_asker)), (p_st, .inl (cI, 104, .inl d_st))] → va_S A s.heap H locs → ∀ ls : Array Slot, lv_has ls 4 [(0, .ref p_this), (2, .int x2_4)] → f_X6_inVain_J63 (f_X6_inVain_L4 d_asker d_st n9_4) x2_4 x1_4 d_asker d_st t1_63 = some out → W p l e ({ frames := 1, cells := 0, slots := 0, locals := 22 } : Room) s m ([.ref p_this] : List Value).toArray below meth c H locs 0 0 Q (F0 m 63 ls [.int t1_63, .int x1_4]) := by
          intro t1_63 H locs hP hD hS ls hl hrun
          rw [f_X6_inVain_J63] at hrun
          refine lv_iadd hx hb dX6_inVain_63 ?_
          refine lv_istore_n (lv' := [(1, .int (x1_4 + t1_63)), (0, .ref p_this), (2, .int x2_4)]) hx hb dX6_inVain_64 rfl hl (by decide) rfl (fun ls hl => ?_)
          refine lv_iinc (v := x2_4 + 1) (lv' := [(2, .int (x2_4 + 1)), (1, .int (x1_4 + t1_63)), (0, .ref p_this)]) hx hb dX6_inVain_65 hl (k := 2) rfl rfl (by decide) rfl (fun ls hl => ?_)
          refine lv_goto (tgt := 4) hx hb dX6_inVain_68 (by decide) ?_
          exact ih4 (x1_4 + t1_63) (x2_4 + 1) H locs hP hD hS ls (lv_sub hl [2, 1, 0] rfl) hrun
        refine lv_icmp_ne (tgt := 62) hx hb dX6_inVain_55 (by decide) (fun c_55 => ?_) (fun c_55 => ?_)
        · rw [if_neg c_55] at hrun
          refine lv_iconst (v := 1) hx hb dX6_inVain_62 (by decide) ?_
          exact J63 1 H locs hP hD hS ls (lv_sub hl [1, 3] rfl) hrun
        · rw [if_pos c_55] at hrun
          refine lv_iconst (v := 0) hx hb dX6_inVain_58 (by decide) ?_
          refine lv_goto (tgt := 63) hx hb dX6_inVain_59 (by decide) ?_
          exact J63 0 H locs hP hD hS ls (lv_sub hl [1, 3] rfl) hrun
  exact L4 FU 0 0 H locs hP hD hS ls (lv_sub hl [2, 1, 0] rfl) hrun
-- SkyListenersModel.twice
def f_X6_twice (d_asker : Nat → Int32) (d_st : Nat → Int32) (x1 : Int32) : Option (Int32) := (if (f_X6_in x1 0 1) = 0 then (some (-1)) else (if x1 = 0 then ((f_X6_firstTwice d_st).bind fun q18 => (some q18)) else ((f_X6_inVain d_asker d_st).bind fun q25 => (some q25))))
set_option maxHeartbeats 4000000 in
set_option maxRecDepth 100000 in
theorem c_X6_twice (l : Launch) (dC : Nat → ClassId) (dI : Nat → Nat → Nat) (cI cZ : ClassId) (sz : Nat) (p_asker p_images p_isKept p_noise p_room p_saidAsker p_saidMount p_saidNoise p_saidSpeaker p_speaker p_st p_text p_this : Nat) (d_dishes : Int32) (d_speakers : Int32) (d_noises : Int32) (d_askers : Int32) (d_trace : Int64) (d_texted : Int32) (d_cursor : Int32) (d_start : Int32) (d_token : Int32) (d_number : Int32) (d_word : Int64) (d_isWrong : Int32) (d_saidDishes : Int32) (d_saidSpeakers : Int32) (d_saidNoises : Int32) (d_saidAskers : Int32) (d_couldBe : Int32) (d_couldHere : Int32) (d_asker : Nat → Int32) (d_st : Nat → Int32) (x1 : Int32) (out : Int32) (hrun : f_X6_twice d_asker d_st x1 = some out) : Met l yX6_twice wsX6_twice ({ frames := 2, cells := 0, slots := 0, locals := 45 } : Room) (va_Pc [.ref p_this, .int x1] (PC dC dI cI cZ sz ([(p_this, .inr (6, [.int d_dishes, .int d_speakers, .ref p_speaker, .int d_noises, .ref p_noise, .int d_askers, .ref p_asker, .ref p_st, .ref p_images, .ref p_isKept, .long d_trace, .ref p_text, .int d_texted, .int d_cursor, .int d_start, .int d_token, .int d_number, .long d_word, .int d_isWrong, .int d_saidDishes, .ref p_saidMount, .int d_saidSpeakers, .ref p_saidSpeaker, .int d_saidNoises, .ref p_saidNoise, .int d_saidAskers, .ref p_saidAsker, .ref p_room, .int d_couldBe, .int d_couldHere])), (p_asker, .inl (cI, 10, .inl d_asker)), (p_st, .inl (cI, 104, .inl d_st))] : va_W))) (va_Qi (fun r (_ : Unit) => r = out) (fun _ t => va_P (dC, dI) vwCl [(p_this, .inr (6, [.int d_dishes, .int d_speakers, .ref p_speaker, .int d_noises, .ref p_noise, .int d_askers, .ref p_asker, .ref p_st, .ref p_images, .ref p_isKept, .long d_trace, .ref p_text, .int d_texted, .int d_cursor, .int d_start, .int d_token, .int d_number, .long d_word, .int d_isWrong, .int d_saidDishes, .ref p_saidMount, .int d_saidSpeakers, .ref p_saidSpeaker, .int d_saidNoises, .ref p_saidNoise, .int d_saidAskers, .ref p_saidAsker, .ref p_room, .int d_couldBe, .int d_couldHere])), (p_asker, .inl (cI, 10, .inl d_asker)), (p_st, .inl (cI, 104, .inl d_st))] t.heap ∧ va_D (va_A ([(p_this, .inr (6, [.int d_dishes, .int d_speakers, .ref p_speaker, .int d_noises, .ref p_noise, .int d_askers, .ref p_asker, .ref p_st, .ref p_images, .ref p_isKept, .long d_trace, .ref p_text, .int d_texted, .int d_cursor, .int d_start, .int d_token, .int d_number, .long d_word, .int d_isWrong, .int d_saidDishes, .ref p_saidMount, .int d_saidSpeakers, .ref p_saidSpeaker, .int d_saidNoises, .ref p_saidNoise, .int d_saidAskers, .ref p_saidAsker, .ref p_room, .int d_couldBe, .int d_couldHere])), (p_asker, .inl (cI, 10, .inl d_asker)), (p_st, .inl (cI, 104, .inl d_st))] : va_W) sz) [(p_this, .inr (6, [.int d_dishes, .int d_speakers, .ref p_speaker, .int d_noises, .ref p_noise, .int d_askers, .ref p_asker, .ref p_st, .ref p_images, .ref p_isKept, .long d_trace, .ref p_text, .int d_texted, .int d_cursor, .int d_start, .int d_token, .int d_number, .long d_word, .int d_isWrong, .int d_saidDishes, .ref p_saidMount, .int d_saidSpeakers, .ref p_saidSpeaker, .int d_saidNoises, .ref p_saidNoise, .int d_saidAskers, .ref p_saidAsker, .ref p_room, .int d_couldBe, .int d_couldHere])), (p_asker, .inl (cI, 10, .inl d_asker)), (p_st, .inl (cI, 104, .inl d_st))]) (va_A ([(p_this, .inr (6, [.int d_dishes, .int d_speakers, .ref p_speaker, .int d_noises, .ref p_noise, .int d_askers, .ref p_asker, .ref p_st, .ref p_images, .ref p_isKept, .long d_trace, .ref p_text, .int d_texted, .int d_cursor, .int d_start, .int d_token, .int d_number, .long d_word, .int d_isWrong, .int d_saidDishes, .ref p_saidMount, .int d_saidSpeakers, .ref p_saidSpeaker, .int d_saidNoises, .ref p_saidNoise, .int d_saidAskers, .ref p_saidAsker, .ref p_room, .int d_couldBe, .int d_couldHere])), (p_asker, .inl (cI, 10, .inl d_asker)), (p_st, .inl (cI, 104, .inl d_st))] : va_W) sz)) 0 0 (va_A ([(p_this, .inr (6, [.int d_dishes, .int d_speakers, .ref p_speaker, .int d_noises, .ref p_noise, .int d_askers, .ref p_asker, .ref p_st, .ref p_images, .ref p_isKept, .long d_trace, .ref p_text, .int d_texted, .int d_cursor, .int d_start, .int d_token, .int d_number, .long d_word, .int d_isWrong, .int d_saidDishes, .ref p_saidMount, .int d_saidSpeakers, .ref p_saidSpeaker, .int d_saidNoises, .ref p_saidNoise, .int d_saidAskers, .ref p_saidAsker, .ref p_room, .int d_couldBe, .int d_couldHere])), (p_asker, .inl (cI, 10, .inl d_asker)), (p_st, .inl (cI, 104, .inl d_st))] : va_W) sz) := by
  refine Met.ofW (cc := cX6_twice) (maxL := 2) (ret := (some .int)) (by decide) rfl ?_
  intro p e s m args below meth c s₁ B hml hv
  obtain ⟨rfl, hsz, hP, hK, hD0, hN⟩ := hv
  have hx := B.exec
  have hb := B.bytes
  have hr := B.returns
  have hts := atoms_spec (ws := wsX6_twice) B.pre
  have hown : s.vm.findClass RX6 = some m.cls := findClass_of_methodNamed B.named
  have hlocks := B.notSynchronized
  subst hsz
  have hD := hD0.self (sz := s.heap.size)
  generalize hAe : va_A ([(p_this, .inr (6, [.int d_dishes, .int d_speakers, .ref p_speaker, .int d_noises, .ref p_noise, .int d_askers, .ref p_asker, .ref p_st, .ref p_images, .ref p_isKept, .long d_trace, .ref p_text, .int d_texted, .int d_cursor, .int d_start, .int d_token, .int d_number, .long d_word, .int d_isWrong, .int d_saidDishes, .ref p_saidMount, .int d_saidSpeakers, .ref p_saidSpeaker, .int d_saidNoises, .ref p_saidNoise, .int d_saidAskers, .ref p_saidAsker, .ref p_room, .int d_couldBe, .int d_couldHere])), (p_asker, .inl (cI, 10, .inl d_asker)), (p_st, .inl (cI, 104, .inl d_st))] : va_W) s.heap.size = A at hD ⊢
  have hA : ∀ q : Nat, s.heap.size ≤ q → A q := fun q h => by rw [← hAe]; exact Or.inr h
  have hS : va_S A s.heap s.heap [] := va_S.rf
  refine W_abs (fun Q hQ => ?_)
  have hl := lv_entry ([.ref p_this, .int x1]) (n := 2) (Nat.le_of_ble_eq_true rfl)
  rw [lg_entry_eq]
  generalize (lg_sl ([.ref p_this, .int x1]) ++ List.replicate (2 - (lg_sl ([.ref p_this, .int x1])).length) Slot.unset).toArray = ls at hl ⊢
  have hl : lv_has ls 2 [(0, .ref p_this), (1, .int x1)] := hl
  rw [f_X6_twice] at hrun
  refine W_start (ws := [(p_this, .inr (6, [.int d_dishes, .int d_speakers, .ref p_speaker, .int d_noises, .ref p_noise, .int d_askers, .ref p_asker, .ref p_st, .ref p_images, .ref p_isKept, .long d_trace, .ref p_text, .int d_texted, .int d_cursor, .int d_start, .int d_token, .int d_number, .long d_word, .int d_isWrong, .int d_saidDishes, .ref p_saidMount, .int d_saidSpeakers, .ref p_saidSpeaker, .int d_saidNoises, .ref p_saidNoise, .int d_saidAskers, .ref p_saidAsker, .ref p_room, .int d_couldBe, .int d_couldHere])), (p_asker, .inl (cI, 10, .inl d_asker)), (p_st, .inl (cI, 104, .inl d_st))]) hP hS (fun H locs hP hS => ?_)
  refine lv_iload_n hx hb dX6_twice_0 rfl (lv_at hl 1 rfl) ?_
  refine lv_iconst (v := 0) hx hb dX6_twice_1 (by decide) ?_
  refine lv_iconst (v := 1) hx hb dX6_twice_2 (by decide) ?_
  have hPc : va_P (dC, dI) vwCl [] H := hP.sub [] rfl
  have hDc : va_D A [] := hD.sub [] (by decide) rfl
  have hFc := va_free (wc := []) hD hS hA [] rfl
  refine va_calli (va_runS (As := [.int x1, .int 0, .int 1]) (rest := []) ⟨hx, hb, hml, hown, hts⟩ (c_X6_in l dC dI cI cZ H.size x1 0 1 (f_X6_in x1 0 1) rfl) (va_cwS 3 hts gX6_twice_X6_in rfl rfl rfl (by decide +kernel) ⟨Nat.le_of_ble_eq_true rfl, Nat.le_of_ble_eq_true rfl⟩) ⟨fun a U g mk q => ⟨q.1, PC.mv q.2⟩, fun U hU hW => ⟨rfl, PC.of hU hW hPc hK hDc hN⟩⟩ rfl rfl hl.1 rfl (lv_room (Nat.le_of_ble_eq_true rfl)) dX6_twice_3 ⟨Nat.zero_le _, Nat.zero_le _⟩) hS (fun q _ h => hFc q h) hFc (fun r_3 u t H1 locs ht hvm hw hB hz1 hk1 hS => ?_)
  obtain ⟨hP1, hD1⟩ := hB
  try dsimp only at hw
  rw [hw]
  rw [ht] at hP1
  have hP : va_P (dC, dI) vwCl [(p_this, .inr (6, [.int d_dishes, .int d_speakers, .ref p_speaker, .int d_noises, .ref p_noise, .int d_askers, .ref p_asker, .ref p_st, .ref p_images, .ref p_isKept, .long d_trace, .ref p_text, .int d_texted, .int d_cursor, .int d_start, .int d_token, .int d_number, .long d_word, .int d_isWrong, .int d_saidDishes, .ref p_saidMount, .int d_saidSpeakers, .ref p_saidSpeaker, .int d_saidNoises, .ref p_saidNoise, .int d_saidAskers, .ref p_saidAsker, .ref p_room, .int d_couldBe, .int d_couldHere])), (p_asker, .inl (cI, 10, .inl d_asker)), (p_st, .inl (cI, 104, .inl d_st))] H1 := join_ro hP hD [] rfl hk1 hP1
  clear hPc hDc hFc hk1 hz1 hP1 hD1 ht hvm
  generalize H1 = H at hP hS ⊢
  refine lv_if_ne (tgt := 13) hx hb dX6_twice_6 (by decide) (fun c_6 => ?_) (fun c_6 => ?_)
  · rw [if_neg c_6] at hrun
    refine lv_iload_n hx hb dX6_twice_13 rfl (lv_at hl 1 rfl) ?_
    refine lv_if_ne (tgt := 24) hx hb dX6_twice_14 (by decide) (fun c_14 => ?_) (fun c_14 => ?_)
    · rw [if_neg c_14] at hrun
      refine lv_aload_n hx hb dX6_twice_24 rfl (lv_at hl 0 rfl) ?_
      obtain ⟨q25, hq25, hrun⟩ := bind_out hrun
      have hPc : va_P (dC, dI) vwCl [(p_this, .inr (6, [.int d_dishes, .int d_speakers, .ref p_speaker, .int d_noises, .ref p_noise, .int d_askers, .ref p_asker, .ref p_st, .ref p_images, .ref p_isKept, .long d_trace, .ref p_text, .int d_texted, .int d_cursor, .int d_start, .int d_token, .int d_number, .long d_word, .int d_isWrong, .int d_saidDishes, .ref p_saidMount, .int d_saidSpeakers, .ref p_saidSpeaker, .int d_saidNoises, .ref p_saidNoise, .int d_saidAskers, .ref p_saidAsker, .ref p_room, .int d_couldBe, .int d_couldHere])), (p_asker, .inl (cI, 10, .inl d_asker)), (p_st, .inl (cI, 104, .inl d_st))] H := hP.sub [0, 1, 2] rfl
      have hDc : va_D A [(p_this, .inr (6, [.int d_dishes, .int d_speakers, .ref p_speaker, .int d_noises, .ref p_noise, .int d_askers, .ref p_asker, .ref p_st, .ref p_images, .ref p_isKept, .long d_trace, .ref p_text, .int d_texted, .int d_cursor, .int d_start, .int d_token, .int d_number, .long d_word, .int d_isWrong, .int d_saidDishes, .ref p_saidMount, .int d_saidSpeakers, .ref p_saidSpeaker, .int d_saidNoises, .ref p_saidNoise, .int d_saidAskers, .ref p_saidAsker, .ref p_room, .int d_couldBe, .int d_couldHere])), (p_asker, .inl (cI, 10, .inl d_asker)), (p_st, .inl (cI, 104, .inl d_st))] := hD.sub [0, 1, 2] (by decide) rfl
      have hFc := va_free (wc := [(p_this, .inr (6, [.int d_dishes, .int d_speakers, .ref p_speaker, .int d_noises, .ref p_noise, .int d_askers, .ref p_asker, .ref p_st, .ref p_images, .ref p_isKept, .long d_trace, .ref p_text, .int d_texted, .int d_cursor, .int d_start, .int d_token, .int d_number, .long d_word, .int d_isWrong, .int d_saidDishes, .ref p_saidMount, .int d_saidSpeakers, .ref p_saidSpeaker, .int d_saidNoises, .ref p_saidNoise, .int d_saidAskers, .ref p_saidAsker, .ref p_room, .int d_couldBe, .int d_couldHere])), (p_asker, .inl (cI, 10, .inl d_asker)), (p_st, .inl (cI, 104, .inl d_st))]) hD hS hA [0, 1, 2] rfl
      refine va_calli (va_runV (As := []) (rest := []) ⟨hx, hb, hml, hown, hts⟩ (c_X6_inVain l dC dI cI cZ H.size p_asker p_images p_isKept p_noise p_room p_saidAsker p_saidMount p_saidNoise p_saidSpeaker p_speaker p_st p_text p_this d_dishes d_speakers d_noises d_askers d_trace d_texted d_cursor d_start d_token d_number d_word d_isWrong d_saidDishes d_saidSpeakers d_saidNoises d_saidAskers d_couldBe d_couldHere d_asker d_st q25 hq25) (cwV 0 hts gX6_twice_X6_inVain rfl rfl rfl (by decide +kernel) ⟨Nat.le_of_ble_eq_true rfl, Nat.le_of_ble_eq_true rfl⟩) ⟨fun a U g mk q => ⟨q.1, PC.mv q.2⟩, va_recv hK hP (ci := 6) (q0 := 0) rfl rfl, fun U hU hW => ⟨rfl, PC.of hU hW hPc hK hDc hN⟩⟩ rfl rfl hl.1 rfl (lv_room (Nat.le_of_ble_eq_true rfl)) dX6_twice_25 ⟨Nat.zero_le _, Nat.zero_le _⟩) hS (fun q _ h => hFc q h) hFc (fun r_25 u t H1 locs ht hvm hw hB hz1 hk1 hS => ?_)
      obtain ⟨hP1, hD1⟩ := hB
      try dsimp only at hw
      rw [hw]
      rw [ht] at hP1
      have hP : va_P (dC, dI) vwCl [(p_this, .inr (6, [.int d_dishes, .int d_speakers, .ref p_speaker, .int d_noises, .ref p_noise, .int d_askers, .ref p_asker, .ref p_st, .ref p_images, .ref p_isKept, .long d_trace, .ref p_text, .int d_texted, .int d_cursor, .int d_start, .int d_token, .int d_number, .long d_word, .int d_isWrong, .int d_saidDishes, .ref p_saidMount, .int d_saidSpeakers, .ref p_saidSpeaker, .int d_saidNoises, .ref p_saidNoise, .int d_saidAskers, .ref p_saidAsker, .ref p_room, .int d_couldBe, .int d_couldHere])), (p_asker, .inl (cI, 10, .inl d_asker)), (p_st, .inl (cI, 104, .inl d_st))] H1 := join_ro hP hD [0, 1, 2] rfl hk1 hP1
      clear hPc hDc hFc hk1 hz1 hP1 hD1 ht hvm
      generalize H1 = H at hP hS ⊢
      have hrun := Option.some.inj hrun
      subst hrun
      rw [hQ]
      exact W.iret (v := q25) hx hb hr (fun t ht hW => ⟨⟨q25, (), rfl, rfl, by rw [ht]; exact hP, hD⟩, hS.F ht⟩) hS.2.2 dX6_twice_28
    · rw [if_pos c_14] at hrun
      refine lv_aload_n hx hb dX6_twice_17 rfl (lv_at hl 0 rfl) ?_
      obtain ⟨q18, hq18, hrun⟩ := bind_out hrun
      have hPc : va_P (dC, dI) vwCl [(p_this, .inr (6, [.int d_dishes, .int d_speakers, .ref p_speaker, .int d_noises, .ref p_noise, .int d_askers, .ref p_asker, .ref p_st, .ref p_images, .ref p_isKept, .long d_trace, .ref p_text, .int d_texted, .int d_cursor, .int d_start, .int d_token, .int d_number, .long d_word, .int d_isWrong, .int d_saidDishes, .ref p_saidMount, .int d_saidSpeakers, .ref p_saidSpeaker, .int d_saidNoises, .ref p_saidNoise, .int d_saidAskers, .ref p_saidAsker, .ref p_room, .int d_couldBe, .int d_couldHere])), (p_st, .inl (cI, 104, .inl d_st))] H := hP.sub [0, 2] rfl
      have hDc : va_D A [(p_this, .inr (6, [.int d_dishes, .int d_speakers, .ref p_speaker, .int d_noises, .ref p_noise, .int d_askers, .ref p_asker, .ref p_st, .ref p_images, .ref p_isKept, .long d_trace, .ref p_text, .int d_texted, .int d_cursor, .int d_start, .int d_token, .int d_number, .long d_word, .int d_isWrong, .int d_saidDishes, .ref p_saidMount, .int d_saidSpeakers, .ref p_saidSpeaker, .int d_saidNoises, .ref p_saidNoise, .int d_saidAskers, .ref p_saidAsker, .ref p_room, .int d_couldBe, .int d_couldHere])), (p_st, .inl (cI, 104, .inl d_st))] := hD.sub [0, 2] (by decide) rfl
      have hFc := va_free (wc := [(p_this, .inr (6, [.int d_dishes, .int d_speakers, .ref p_speaker, .int d_noises, .ref p_noise, .int d_askers, .ref p_asker, .ref p_st, .ref p_images, .ref p_isKept, .long d_trace, .ref p_text, .int d_texted, .int d_cursor, .int d_start, .int d_token, .int d_number, .long d_word, .int d_isWrong, .int d_saidDishes, .ref p_saidMount, .int d_saidSpeakers, .ref p_saidSpeaker, .int d_saidNoises, .ref p_saidNoise, .int d_saidAskers, .ref p_saidAsker, .ref p_room, .int d_couldBe, .int d_couldHere])), (p_st, .inl (cI, 104, .inl d_st))]) hD hS hA [0, 2] rfl
      refine va_calli (va_runV (As := []) (rest := []) ⟨hx, hb, hml, hown, hts⟩ (c_X6_firstTwice l dC dI cI cZ H.size p_asker p_images p_isKept p_noise p_room p_saidAsker p_saidMount p_saidNoise p_saidSpeaker p_speaker p_st p_text p_this d_dishes d_speakers d_noises d_askers d_trace d_texted d_cursor d_start d_token d_number d_word d_isWrong d_saidDishes d_saidSpeakers d_saidNoises d_saidAskers d_couldBe d_couldHere d_st q18 hq18) (cwV 0 hts gX6_twice_X6_firstTwice rfl rfl rfl (by decide +kernel) ⟨Nat.le_of_ble_eq_true rfl, Nat.le_of_ble_eq_true rfl⟩) ⟨fun a U g mk q => ⟨q.1, PC.mv q.2⟩, va_recv hK hP (ci := 6) (q0 := 0) rfl rfl, fun U hU hW => ⟨rfl, PC.of hU hW hPc hK hDc hN⟩⟩ rfl rfl hl.1 rfl (lv_room (Nat.le_of_ble_eq_true rfl)) dX6_twice_18 ⟨Nat.zero_le _, Nat.zero_le _⟩) hS (fun q _ h => hFc q h) hFc (fun r_18 u t H1 locs ht hvm hw hB hz1 hk1 hS => ?_)
      obtain ⟨hP1, hD1⟩ := hB
      try dsimp only at hw
      rw [hw]
      rw [ht] at hP1
      have hP : va_P (dC, dI) vwCl [(p_this, .inr (6, [.int d_dishes, .int d_speakers, .ref p_speaker, .int d_noises, .ref p_noise, .int d_askers, .ref p_asker, .ref p_st, .ref p_images, .ref p_isKept, .long d_trace, .ref p_text, .int d_texted, .int d_cursor, .int d_start, .int d_token, .int d_number, .long d_word, .int d_isWrong, .int d_saidDishes, .ref p_saidMount, .int d_saidSpeakers, .ref p_saidSpeaker, .int d_saidNoises, .ref p_saidNoise, .int d_saidAskers, .ref p_saidAsker, .ref p_room, .int d_couldBe, .int d_couldHere])), (p_asker, .inl (cI, 10, .inl d_asker)), (p_st, .inl (cI, 104, .inl d_st))] H1 := join_ro hP hD [0, 2] rfl hk1 hP1
      clear hPc hDc hFc hk1 hz1 hP1 hD1 ht hvm
      generalize H1 = H at hP hS ⊢
      refine lv_goto (tgt := 28) hx hb dX6_twice_21 (by decide) ?_
      have hrun := Option.some.inj hrun
      subst hrun
      rw [hQ]
      exact W.iret (v := q18) hx hb hr (fun t ht hW => ⟨⟨q18, (), rfl, rfl, by rw [ht]; exact hP, hD⟩, hS.F ht⟩) hS.2.2 dX6_twice_28
  · rw [if_pos c_6] at hrun
    refine lv_iconst (v := (-1)) hx hb dX6_twice_9 (by decide) ?_
    refine lv_goto (tgt := 28) hx hb dX6_twice_10 (by decide) ?_
    have hrun := Option.some.inj hrun
    subst hrun
    rw [hQ]
    exact W.iret (v := (-1)) hx hb hr (fun t ht hW => ⟨⟨(-1), (), rfl, rfl, by rw [ht]; exact hP, hD⟩, hS.F ht⟩) hS.2.2 dX6_twice_28
-- SkyListenersModel.undo
def f_X6_undo_J77 (d_st : Nat → Int32) : Option (Int32 × (Nat → Int32)) := (some (d_st (Int32.toNatClampNeg 2), d_st))
def f_X6_undo (d_st : Nat → Int32) : Option (Int32 × (Nat → Int32)) := (if (d_st (Int32.toNatClampNeg 2)) = 0 then (some ((-2), d_st)) else (if (84 + (2 * ((upd d_st (Int32.toNatClampNeg 2) ((d_st (Int32.toNatClampNeg 2)) - 1)) (Int32.toNatClampNeg 2)))) < 0 ∨ 104 ≤ (84 + (2 * ((upd d_st (Int32.toNatClampNeg 2) ((d_st (Int32.toNatClampNeg 2)) - 1)) (Int32.toNatClampNeg 2)))).toNatClampNeg then none else (if 0 ≤ ((upd d_st (Int32.toNatClampNeg 2) ((d_st (Int32.toNatClampNeg 2)) - 1)) (84 + (2 * ((upd d_st (Int32.toNatClampNeg 2) ((d_st (Int32.toNatClampNeg 2)) - 1)) (Int32.toNatClampNeg 2)))).toNatClampNeg) then (if (84 + (2 * ((upd d_st (Int32.toNatClampNeg 2) ((d_st (Int32.toNatClampNeg 2)) - 1)) (Int32.toNatClampNeg 2)))) < 0 ∨ 104 ≤ (84 + (2 * ((upd d_st (Int32.toNatClampNeg 2) ((d_st (Int32.toNatClampNeg 2)) - 1)) (Int32.toNatClampNeg 2)))).toNatClampNeg then none else (if ((84 + (2 * ((upd d_st (Int32.toNatClampNeg 2) ((d_st (Int32.toNatClampNeg 2)) - 1)) (Int32.toNatClampNeg 2)))) + 1) < 0 ∨ 104 ≤ ((84 + (2 * ((upd d_st (Int32.toNatClampNeg 2) ((d_st (Int32.toNatClampNeg 2)) - 1)) (Int32.toNatClampNeg 2)))) + 1).toNatClampNeg then none else (if (3 + ((upd d_st (Int32.toNatClampNeg 2) ((d_st (Int32.toNatClampNeg 2)) - 1)) (84 + (2 * ((upd d_st (Int32.toNatClampNeg 2) ((d_st (Int32.toNatClampNeg 2)) - 1)) (Int32.toNatClampNeg 2)))).toNatClampNeg)) < 0 ∨ 104 ≤ (3 + ((upd d_st (Int32.toNatClampNeg 2) ((d_st (Int32.toNatClampNeg 2)) - 1)) (84 + (2 * ((upd d_st (Int32.toNatClampNeg 2) ((d_st (Int32.toNatClampNeg 2)) - 1)) (Int32.toNatClampNeg 2)))).toNatClampNeg)).toNatClampNeg then none else (f_X6_undo_J77 (upd (upd d_st (Int32.toNatClampNeg 2) ((d_st (Int32.toNatClampNeg 2)) - 1)) (3 + ((upd d_st (Int32.toNatClampNeg 2) ((d_st (Int32.toNatClampNeg 2)) - 1)) (84 + (2 * ((upd d_st (Int32.toNatClampNeg 2) ((d_st (Int32.toNatClampNeg 2)) - 1)) (Int32.toNatClampNeg 2)))).toNatClampNeg)).toNatClampNeg ((upd d_st (Int32.toNatClampNeg 2) ((d_st (Int32.toNatClampNeg 2)) - 1)) ((84 + (2 * ((upd d_st (Int32.toNatClampNeg 2) ((d_st (Int32.toNatClampNeg 2)) - 1)) (Int32.toNatClampNeg 2)))) + 1).toNatClampNeg)))))) else (f_X6_undo_J77 (upd (upd d_st (Int32.toNatClampNeg 2) ((d_st (Int32.toNatClampNeg 2)) - 1)) (Int32.toNatClampNeg 0) (((upd d_st (Int32.toNatClampNeg 2) ((d_st (Int32.toNatClampNeg 2)) - 1)) (Int32.toNatClampNeg 0)) - 1))))))
set_option maxHeartbeats 4000000 in
set_option maxRecDepth 100000 in
theorem c_X6_undo (l : Launch) (dC : Nat → ClassId) (dI : Nat → Nat → Nat) (cI cZ : ClassId) (sz : Nat) (p_asker p_images p_isKept p_noise p_room p_saidAsker p_saidMount p_saidNoise p_saidSpeaker p_speaker p_st p_text p_this : Nat) (d_dishes : Int32) (d_speakers : Int32) (d_noises : Int32) (d_askers : Int32) (d_trace : Int64) (d_texted : Int32) (d_cursor : Int32) (d_start : Int32) (d_token : Int32) (d_number : Int32) (d_word : Int64) (d_isWrong : Int32) (d_saidDishes : Int32) (d_saidSpeakers : Int32) (d_saidNoises : Int32) (d_saidAskers : Int32) (d_couldBe : Int32) (d_couldHere : Int32) (d_st : Nat → Int32) (out : Int32 × (Nat → Int32)) (hrun : f_X6_undo d_st = some out) : Met l yX6_undo wsX6_undo ({ frames := 0, cells := 0, slots := 0, locals := 0 } : Room) (va_Pc [.ref p_this] (PC dC dI cI cZ sz ([(p_this, .inr (6, [.int d_dishes, .int d_speakers, .ref p_speaker, .int d_noises, .ref p_noise, .int d_askers, .ref p_asker, .ref p_st, .ref p_images, .ref p_isKept, .long d_trace, .ref p_text, .int d_texted, .int d_cursor, .int d_start, .int d_token, .int d_number, .long d_word, .int d_isWrong, .int d_saidDishes, .ref p_saidMount, .int d_saidSpeakers, .ref p_saidSpeaker, .int d_saidNoises, .ref p_saidNoise, .int d_saidAskers, .ref p_saidAsker, .ref p_room, .int d_couldBe, .int d_couldHere])), (p_st, .inl (cI, 104, .inl d_st))] : va_W))) (va_Qi (fun r (_ : Unit) => r = out.1) (fun _ t => va_P (dC, dI) vwCl [(p_this, .inr (6, [.int d_dishes, .int d_speakers, .ref p_speaker, .int d_noises, .ref p_noise, .int d_askers, .ref p_asker, .ref p_st, .ref p_images, .ref p_isKept, .long d_trace, .ref p_text, .int d_texted, .int d_cursor, .int d_start, .int d_token, .int d_number, .long d_word, .int d_isWrong, .int d_saidDishes, .ref p_saidMount, .int d_saidSpeakers, .ref p_saidSpeaker, .int d_saidNoises, .ref p_saidNoise, .int d_saidAskers, .ref p_saidAsker, .ref p_room, .int d_couldBe, .int d_couldHere])), (p_st, .inl (cI, 104, .inl out.2))] t.heap ∧ va_D (va_A ([(p_this, .inr (6, [.int d_dishes, .int d_speakers, .ref p_speaker, .int d_noises, .ref p_noise, .int d_askers, .ref p_asker, .ref p_st, .ref p_images, .ref p_isKept, .long d_trace, .ref p_text, .int d_texted, .int d_cursor, .int d_start, .int d_token, .int d_number, .long d_word, .int d_isWrong, .int d_saidDishes, .ref p_saidMount, .int d_saidSpeakers, .ref p_saidSpeaker, .int d_saidNoises, .ref p_saidNoise, .int d_saidAskers, .ref p_saidAsker, .ref p_room, .int d_couldBe, .int d_couldHere])), (p_st, .inl (cI, 104, .inl d_st))] : va_W) sz) [(p_this, .inr (6, [.int d_dishes, .int d_speakers, .ref p_speaker, .int d_noises, .ref p_noise, .int d_askers, .ref p_asker, .ref p_st, .ref p_images, .ref p_isKept, .long d_trace, .ref p_text, .int d_texted, .int d_cursor, .int d_start, .int d_token, .int d_number, .long d_word, .int d_isWrong, .int d_saidDishes, .ref p_saidMount, .int d_saidSpeakers, .ref p_saidSpeaker, .int d_saidNoises, .ref p_saidNoise, .int d_saidAskers, .ref p_saidAsker, .ref p_room, .int d_couldBe, .int d_couldHere])), (p_st, .inl (cI, 104, .inl out.2))]) (va_A ([(p_this, .inr (6, [.int d_dishes, .int d_speakers, .ref p_speaker, .int d_noises, .ref p_noise, .int d_askers, .ref p_asker, .ref p_st, .ref p_images, .ref p_isKept, .long d_trace, .ref p_text, .int d_texted, .int d_cursor, .int d_start, .int d_token, .int d_number, .long d_word, .int d_isWrong, .int d_saidDishes, .ref p_saidMount, .int d_saidSpeakers, .ref p_saidSpeaker, .int d_saidNoises, .ref p_saidNoise, .int d_saidAskers, .ref p_saidAsker, .ref p_room, .int d_couldBe, .int d_couldHere])), (p_st, .inl (cI, 104, .inl d_st))] : va_W) sz)) 0 0 (va_A ([(p_this, .inr (6, [.int d_dishes, .int d_speakers, .ref p_speaker, .int d_noises, .ref p_noise, .int d_askers, .ref p_asker, .ref p_st, .ref p_images, .ref p_isKept, .long d_trace, .ref p_text, .int d_texted, .int d_cursor, .int d_start, .int d_token, .int d_number, .long d_word, .int d_isWrong, .int d_saidDishes, .ref p_saidMount, .int d_saidSpeakers, .ref p_saidSpeaker, .int d_saidNoises, .ref p_saidNoise, .int d_saidAskers, .ref p_saidAsker, .ref p_room, .int d_couldBe, .int d_couldHere])), (p_st, .inl (cI, 104, .inl d_st))] : va_W) sz) := by
  refine Met.ofW (cc := cX6_undo) (maxL := 2) (ret := (some .int)) (by decide) rfl ?_
  intro p e s m args below meth c s₁ B hml hv
  obtain ⟨rfl, hsz, hP, hK, hD0, hN⟩ := hv
  have hx := B.exec
  have hb := B.bytes
  have hr := B.returns
  have hts := atoms_spec (ws := wsX6_undo) B.pre
  have hown : s.vm.findClass RX6 = some m.cls := findClass_of_methodNamed B.named
  have hlocks := B.notSynchronized
  subst hsz
  have hD := hD0.self (sz := s.heap.size)
  generalize hAe : va_A ([(p_this, .inr (6, [.int d_dishes, .int d_speakers, .ref p_speaker, .int d_noises, .ref p_noise, .int d_askers, .ref p_asker, .ref p_st, .ref p_images, .ref p_isKept, .long d_trace, .ref p_text, .int d_texted, .int d_cursor, .int d_start, .int d_token, .int d_number, .long d_word, .int d_isWrong, .int d_saidDishes, .ref p_saidMount, .int d_saidSpeakers, .ref p_saidSpeaker, .int d_saidNoises, .ref p_saidNoise, .int d_saidAskers, .ref p_saidAsker, .ref p_room, .int d_couldBe, .int d_couldHere])), (p_st, .inl (cI, 104, .inl d_st))] : va_W) s.heap.size = A at hD ⊢
  have hA : ∀ q : Nat, s.heap.size ≤ q → A q := fun q h => by rw [← hAe]; exact Or.inr h
  have hS : va_S A s.heap s.heap [] := va_S.rf
  refine W_abs (fun Q hQ => ?_)
  have hl := lv_entry ([.ref p_this]) (n := 2) (Nat.le_of_ble_eq_true rfl)
  rw [lg_entry_eq]
  generalize (lg_sl ([.ref p_this]) ++ List.replicate (2 - (lg_sl ([.ref p_this])).length) Slot.unset).toArray = ls at hl ⊢
  have hl : lv_has ls 2 [(0, .ref p_this)] := hl
  rw [f_X6_undo] at hrun
  refine W_start (ws := [(p_this, .inr (6, [.int d_dishes, .int d_speakers, .ref p_speaker, .int d_noises, .ref p_noise, .int d_askers, .ref p_asker, .ref p_st, .ref p_images, .ref p_isKept, .long d_trace, .ref p_text, .int d_texted, .int d_cursor, .int d_start, .int d_token, .int d_number, .long d_word, .int d_isWrong, .int d_saidDishes, .ref p_saidMount, .int d_saidSpeakers, .ref p_saidSpeaker, .int d_saidNoises, .ref p_saidNoise, .int d_saidAskers, .ref p_saidAsker, .ref p_room, .int d_couldBe, .int d_couldHere])), (p_st, .inl (cI, 104, .inl d_st))]) hP hS (fun H locs hP hS => ?_)
  have iwX6 : ∀ w ∈ wsX60, w ∈ wsX6_undo := by decide +kernel
  refine lv_aload_n hx hb dX6_undo_0 rfl (lv_at hl 0 rfl) ?_
  refine va_get (D := (dC, dI)) (ci := 6) (v := .ref p_st) (C := RX6) (T := TX6) (N := 30) hx hb hts iwX6 hown hK hP 0 rfl rfl 7 (by decide) (hts (.fieldLink RX6 19 "SkyListenersModel" "st" "[I") (by decide +kernel)) (fun _ h9 => h9) rfl dX6_undo_1 ?_
  refine lv_iconst (v := 2) hx hb dX6_undo_4 (by decide) ?_
  refine va_iald hx hb hK hP 1 0 rfl rfl (vp_lit (by decide) (by decide)) dX6_undo_5 ?_
  refine lv_if_ne (tgt := 12) hx hb dX6_undo_6 (by decide) (fun c_6 => ?_) (fun c_6 => ?_)
  · rw [if_neg c_6] at hrun
    refine lv_aload_n hx hb dX6_undo_12 rfl (lv_at hl 0 rfl) ?_
    refine va_get (D := (dC, dI)) (ci := 6) (v := .ref p_st) (C := RX6) (T := TX6) (N := 30) hx hb hts iwX6 hown hK hP 0 rfl rfl 7 (by decide) (hts (.fieldLink RX6 19 "SkyListenersModel" "st" "[I") (by decide +kernel)) (fun _ h9 => h9) rfl dX6_undo_13 ?_
    refine lv_iconst (v := 2) hx hb dX6_undo_16 (by decide) ?_
    refine lv_dup2_11 hx hb dX6_undo_17 rfl rfl ?_
    refine va_iald hx hb hK hP 1 0 rfl rfl (vp_lit (by decide) (by decide)) dX6_undo_18 ?_
    refine lv_iconst (v := 1) hx hb dX6_undo_19 (by decide) ?_
    refine lv_isub hx hb dX6_undo_20 ?_
    refine va_iast hx hb hK hP hD hS 1 0 rfl rfl (vp_lit (by decide) (by decide)) dX6_undo_21 (fun H locs hP hD hS => ?_)
    have hP : va_P (dC, dI) vwCl [(p_this, .inr (6, [.int d_dishes, .int d_speakers, .ref p_speaker, .int d_noises, .ref p_noise, .int d_askers, .ref p_asker, .ref p_st, .ref p_images, .ref p_isKept, .long d_trace, .ref p_text, .int d_texted, .int d_cursor, .int d_start, .int d_token, .int d_number, .long d_word, .int d_isWrong, .int d_saidDishes, .ref p_saidMount, .int d_saidSpeakers, .ref p_saidSpeaker, .int d_saidNoises, .ref p_saidNoise, .int d_saidAskers, .ref p_saidAsker, .ref p_room, .int d_couldBe, .int d_couldHere])), (p_st, .inl (cI, 104, .inl (upd d_st (Int32.toNatClampNeg 2) ((d_st (Int32.toNatClampNeg 2)) - 1))))] H := hP
    have hD : va_D A [(p_this, .inr (6, [.int d_dishes, .int d_speakers, .ref p_speaker, .int d_noises, .ref p_noise, .int d_askers, .ref p_asker, .ref p_st, .ref p_images, .ref p_isKept, .long d_trace, .ref p_text, .int d_texted, .int d_cursor, .int d_start, .int d_token, .int d_number, .long d_word, .int d_isWrong, .int d_saidDishes, .ref p_saidMount, .int d_saidSpeakers, .ref p_saidSpeaker, .int d_saidNoises, .ref p_saidNoise, .int d_saidAskers, .ref p_saidAsker, .ref p_room, .int d_couldBe, .int d_couldHere])), (p_st, .inl (cI, 104, .inl (upd d_st (Int32.toNatClampNeg 2) ((d_st (Int32.toNatClampNeg 2)) - 1))))] := hD
    refine lv_bipush (v := 84) hx hb dX6_undo_22 (by decide) ?_
    refine lv_iconst (v := 2) hx hb dX6_undo_24 (by decide) ?_
    refine lv_aload_n hx hb dX6_undo_25 rfl (lv_at hl 0 rfl) ?_
    refine va_get (D := (dC, dI)) (ci := 6) (v := .ref p_st) (C := RX6) (T := TX6) (N := 30) hx hb hts iwX6 hown hK hP 0 rfl rfl 7 (by decide) (hts (.fieldLink RX6 19 "SkyListenersModel" "st" "[I") (by decide +kernel)) (fun _ h9 => h9) rfl dX6_undo_26 ?_
    refine lv_iconst (v := 2) hx hb dX6_undo_29 (by decide) ?_
    refine va_iald hx hb hK hP 1 0 rfl rfl (vp_lit (by decide) (by decide)) dX6_undo_30 ?_
    refine lv_imul hx hb dX6_undo_31 ?_
    refine lv_iadd hx hb dX6_undo_32 ?_
    refine lv_istore_n (lv' := [(1, .int (84 + (2 * ((upd d_st (Int32.toNatClampNeg 2) ((d_st (Int32.toNatClampNeg 2)) - 1)) (Int32.toNatClampNeg 2))))), (0, .ref p_this)]) hx hb dX6_undo_33 rfl hl (by decide) rfl (fun ls hl => ?_)
    refine lv_aload_n hx hb dX6_undo_34 rfl (lv_at hl 1 rfl) ?_
    refine va_get (D := (dC, dI)) (ci := 6) (v := .ref p_st) (C := RX6) (T := TX6) (N := 30) hx hb hts iwX6 hown hK hP 0 rfl rfl 7 (by decide) (hts (.fieldLink RX6 19 "SkyListenersModel" "st" "[I") (by decide +kernel)) (fun _ h9 => h9) rfl dX6_undo_35 ?_
    refine lv_iload_n hx hb dX6_undo_38 rfl (lv_at hl 0 rfl) ?_
    rcases Classical.em ((84 + (2 * ((upd d_st (Int32.toNatClampNeg 2) ((d_st (Int32.toNatClampNeg 2)) - 1)) (Int32.toNatClampNeg 2)))) < 0 ∨ 104 ≤ (84 + (2 * ((upd d_st (Int32.toNatClampNeg 2) ((d_st (Int32.toNatClampNeg 2)) - 1)) (Int32.toNatClampNeg 2)))).toNatClampNeg) with g_39 | g_39
    · rw [if_pos g_39] at hrun; cases hrun
    rw [if_neg g_39] at hrun
    refine va_iald hx hb hK hP 1 0 rfl rfl g_39 dX6_undo_39 ?_
    have J77 : ∀ (d_st_77 : Nat → Int32) (H : Heap) (locs : List Loc), va_P (dC, dI) vwCl [(p_this, .inr (6, [.int d_dishes, .int d_speakers, .ref p_speaker, .int d_noises, .ref p_noise, .int d_askers, .ref p_asker, .ref p_st, .ref p_images, .ref p_isKept, .long d_trace, .ref p_text, .int d_texted, .int d_cursor, .int d_start, .int d_token, .int d_number, .long d_word, .int d_isWrong, .int d_saidDishes, .ref p_saidMount, .int d_saidSpeakers, .ref p_saidSpeaker, .int d_saidNoises, .ref p_saidNoise, .int d_saidAskers, .ref p_saidAsker, .ref p_room, .int d_couldBe, .int d_couldHere])), (p_st, .inl (cI, 104, .inl d_st_77))] H → va_D A [(p_this, .inr (6, [.int d_dishes, .int d_speakers, .ref p_speaker, .int d_noises, .ref p_noise, .int d_askers, .ref p_asker, .ref p_st, .ref p_images, .ref p_isKept, .long d_trace, .ref p_text, .int d_texted, .int d_cursor, .int d_start, .int d_token, .int d_number, .long d_word, .int d_isWrong, .int d_saidDishes, .ref p_saidMount, .int d_saidSpeakers, .ref p_saidSpeaker, .int d_saidNoises, .ref p_saidNoise, .int d_saidAskers, .ref p_saidAsker, .ref p_room, .int d_couldBe, .int d_couldHere])), (p_st, .inl (cI, 104, .inl d_st_77))] → va_S A s.heap H locs → ∀ ls : Array Slot, lv_has ls 2 [(0, .ref p_this)] → f_X6_undo_J77 d_st_77 = some out → W p l e ({ frames := 0, cells := 0, slots := 0, locals := 0 } : Room) s m ([.ref p_this] : List Value).toArray below meth c H locs 0 0 Q (F0 m 77 ls []) := by
      intro d_st_77 H locs hP hD hS ls hl hrun
      rw [f_X6_undo_J77] at hrun
      refine lv_aload_n hx hb dX6_undo_77 rfl (lv_at hl 0 rfl) ?_
      refine va_get (D := (dC, dI)) (ci := 6) (v := .ref p_st) (C := RX6) (T := TX6) (N := 30) hx hb hts iwX6 hown hK hP 0 rfl rfl 7 (by decide) (hts (.fieldLink RX6 19 "SkyListenersModel" "st" "[I") (by decide +kernel)) (fun _ h9 => h9) rfl dX6_undo_78 ?_
      refine lv_iconst (v := 2) hx hb dX6_undo_81 (by decide) ?_
      refine va_iald hx hb hK hP 1 0 rfl rfl (vp_lit (by decide) (by decide)) dX6_undo_82 ?_
      have hrun := Option.some.inj hrun
      subst hrun
      rw [hQ]
      exact W.iret (v := d_st_77 (Int32.toNatClampNeg 2)) hx hb hr (fun t ht hW => ⟨⟨d_st_77 (Int32.toNatClampNeg 2), (), rfl, rfl, by rw [ht]; exact hP, hD⟩, hS.F ht⟩) hS.2.2 dX6_undo_83
    refine lv_if_ge (tgt := 56) hx hb dX6_undo_40 (by decide) (fun c_40 => ?_) (fun c_40 => ?_)
    · rw [if_pos c_40] at hrun
      refine lv_aload_n hx hb dX6_undo_56 rfl (lv_at hl 1 rfl) ?_
      refine va_get (D := (dC, dI)) (ci := 6) (v := .ref p_st) (C := RX6) (T := TX6) (N := 30) hx hb hts iwX6 hown hK hP 0 rfl rfl 7 (by decide) (hts (.fieldLink RX6 19 "SkyListenersModel" "st" "[I") (by decide +kernel)) (fun _ h9 => h9) rfl dX6_undo_57 ?_
      refine lv_iconst (v := 3) hx hb dX6_undo_60 (by decide) ?_
      refine lv_aload_n hx hb dX6_undo_61 rfl (lv_at hl 1 rfl) ?_
      refine va_get (D := (dC, dI)) (ci := 6) (v := .ref p_st) (C := RX6) (T := TX6) (N := 30) hx hb hts iwX6 hown hK hP 0 rfl rfl 7 (by decide) (hts (.fieldLink RX6 19 "SkyListenersModel" "st" "[I") (by decide +kernel)) (fun _ h9 => h9) rfl dX6_undo_62 ?_
      refine lv_iload_n hx hb dX6_undo_65 rfl (lv_at hl 0 rfl) ?_
      rcases Classical.em ((84 + (2 * ((upd d_st (Int32.toNatClampNeg 2) ((d_st (Int32.toNatClampNeg 2)) - 1)) (Int32.toNatClampNeg 2)))) < 0 ∨ 104 ≤ (84 + (2 * ((upd d_st (Int32.toNatClampNeg 2) ((d_st (Int32.toNatClampNeg 2)) - 1)) (Int32.toNatClampNeg 2)))).toNatClampNeg) with g_66 | g_66
      · rw [if_pos g_66] at hrun; cases hrun
      rw [if_neg g_66] at hrun
      refine va_iald hx hb hK hP 1 0 rfl rfl g_66 dX6_undo_66 ?_
      refine lv_iadd hx hb dX6_undo_67 ?_
      refine lv_aload_n hx hb dX6_undo_68 rfl (lv_at hl 1 rfl) ?_
      refine va_get (D := (dC, dI)) (ci := 6) (v := .ref p_st) (C := RX6) (T := TX6) (N := 30) hx hb hts iwX6 hown hK hP 0 rfl rfl 7 (by decide) (hts (.fieldLink RX6 19 "SkyListenersModel" "st" "[I") (by decide +kernel)) (fun _ h9 => h9) rfl dX6_undo_69 ?_
      refine lv_iload_n hx hb dX6_undo_72 rfl (lv_at hl 0 rfl) ?_
      refine lv_iconst (v := 1) hx hb dX6_undo_73 (by decide) ?_
      refine lv_iadd hx hb dX6_undo_74 ?_
      rcases Classical.em (((84 + (2 * ((upd d_st (Int32.toNatClampNeg 2) ((d_st (Int32.toNatClampNeg 2)) - 1)) (Int32.toNatClampNeg 2)))) + 1) < 0 ∨ 104 ≤ ((84 + (2 * ((upd d_st (Int32.toNatClampNeg 2) ((d_st (Int32.toNatClampNeg 2)) - 1)) (Int32.toNatClampNeg 2)))) + 1).toNatClampNeg) with g_75 | g_75
      · rw [if_pos g_75] at hrun; cases hrun
      rw [if_neg g_75] at hrun
      refine va_iald hx hb hK hP 1 0 rfl rfl g_75 dX6_undo_75 ?_
      rcases Classical.em ((3 + ((upd d_st (Int32.toNatClampNeg 2) ((d_st (Int32.toNatClampNeg 2)) - 1)) (84 + (2 * ((upd d_st (Int32.toNatClampNeg 2) ((d_st (Int32.toNatClampNeg 2)) - 1)) (Int32.toNatClampNeg 2)))).toNatClampNeg)) < 0 ∨ 104 ≤ (3 + ((upd d_st (Int32.toNatClampNeg 2) ((d_st (Int32.toNatClampNeg 2)) - 1)) (84 + (2 * ((upd d_st (Int32.toNatClampNeg 2) ((d_st (Int32.toNatClampNeg 2)) - 1)) (Int32.toNatClampNeg 2)))).toNatClampNeg)).toNatClampNeg) with g_76 | g_76
      · rw [if_pos g_76] at hrun; cases hrun
      rw [if_neg g_76] at hrun
      refine va_iast hx hb hK hP hD hS 1 0 rfl rfl g_76 dX6_undo_76 (fun H locs hP hD hS => ?_)
      have hP : va_P (dC, dI) vwCl [(p_this, .inr (6, [.int d_dishes, .int d_speakers, .ref p_speaker, .int d_noises, .ref p_noise, .int d_askers, .ref p_asker, .ref p_st, .ref p_images, .ref p_isKept, .long d_trace, .ref p_text, .int d_texted, .int d_cursor, .int d_start, .int d_token, .int d_number, .long d_word, .int d_isWrong, .int d_saidDishes, .ref p_saidMount, .int d_saidSpeakers, .ref p_saidSpeaker, .int d_saidNoises, .ref p_saidNoise, .int d_saidAskers, .ref p_saidAsker, .ref p_room, .int d_couldBe, .int d_couldHere])), (p_st, .inl (cI, 104, .inl (upd (upd d_st (Int32.toNatClampNeg 2) ((d_st (Int32.toNatClampNeg 2)) - 1)) (3 + ((upd d_st (Int32.toNatClampNeg 2) ((d_st (Int32.toNatClampNeg 2)) - 1)) (84 + (2 * ((upd d_st (Int32.toNatClampNeg 2) ((d_st (Int32.toNatClampNeg 2)) - 1)) (Int32.toNatClampNeg 2)))).toNatClampNeg)).toNatClampNeg ((upd d_st (Int32.toNatClampNeg 2) ((d_st (Int32.toNatClampNeg 2)) - 1)) ((84 + (2 * ((upd d_st (Int32.toNatClampNeg 2) ((d_st (Int32.toNatClampNeg 2)) - 1)) (Int32.toNatClampNeg 2)))) + 1).toNatClampNeg))))] H := hP
      have hD : va_D A [(p_this, .inr (6, [.int d_dishes, .int d_speakers, .ref p_speaker, .int d_noises, .ref p_noise, .int d_askers, .ref p_asker, .ref p_st, .ref p_images, .ref p_isKept, .long d_trace, .ref p_text, .int d_texted, .int d_cursor, .int d_start, .int d_token, .int d_number, .long d_word, .int d_isWrong, .int d_saidDishes, .ref p_saidMount, .int d_saidSpeakers, .ref p_saidSpeaker, .int d_saidNoises, .ref p_saidNoise, .int d_saidAskers, .ref p_saidAsker, .ref p_room, .int d_couldBe, .int d_couldHere])), (p_st, .inl (cI, 104, .inl (upd (upd d_st (Int32.toNatClampNeg 2) ((d_st (Int32.toNatClampNeg 2)) - 1)) (3 + ((upd d_st (Int32.toNatClampNeg 2) ((d_st (Int32.toNatClampNeg 2)) - 1)) (84 + (2 * ((upd d_st (Int32.toNatClampNeg 2) ((d_st (Int32.toNatClampNeg 2)) - 1)) (Int32.toNatClampNeg 2)))).toNatClampNeg)).toNatClampNeg ((upd d_st (Int32.toNatClampNeg 2) ((d_st (Int32.toNatClampNeg 2)) - 1)) ((84 + (2 * ((upd d_st (Int32.toNatClampNeg 2) ((d_st (Int32.toNatClampNeg 2)) - 1)) (Int32.toNatClampNeg 2)))) + 1).toNatClampNeg))))] := hD
      exact J77 (upd (upd d_st (Int32.toNatClampNeg 2) ((d_st (Int32.toNatClampNeg 2)) - 1)) (3 + ((upd d_st (Int32.toNatClampNeg 2) ((d_st (Int32.toNatClampNeg 2)) - 1)) (84 + (2 * ((upd d_st (Int32.toNatClampNeg 2) ((d_st (Int32.toNatClampNeg 2)) - 1)) (Int32.toNatClampNeg 2)))).toNatClampNeg)).toNatClampNeg ((upd d_st (Int32.toNatClampNeg 2) ((d_st (Int32.toNatClampNeg 2)) - 1)) ((84 + (2 * ((upd d_st (Int32.toNatClampNeg 2) ((d_st (Int32.toNatClampNeg 2)) - 1)) (Int32.toNatClampNeg 2)))) + 1).toNatClampNeg)) H locs hP hD hS ls (lv_sub hl [1] rfl) hrun
    · rw [if_neg c_40] at hrun
      refine lv_aload_n hx hb dX6_undo_43 rfl (lv_at hl 1 rfl) ?_
      refine va_get (D := (dC, dI)) (ci := 6) (v := .ref p_st) (C := RX6) (T := TX6) (N := 30) hx hb hts iwX6 hown hK hP 0 rfl rfl 7 (by decide) (hts (.fieldLink RX6 19 "SkyListenersModel" "st" "[I") (by decide +kernel)) (fun _ h9 => h9) rfl dX6_undo_44 ?_
      refine lv_iconst (v := 0) hx hb dX6_undo_47 (by decide) ?_
      refine lv_dup2_11 hx hb dX6_undo_48 rfl rfl ?_
      refine va_iald hx hb hK hP 1 0 rfl rfl (vp_lit (by decide) (by decide)) dX6_undo_49 ?_
      refine lv_iconst (v := 1) hx hb dX6_undo_50 (by decide) ?_
      refine lv_isub hx hb dX6_undo_51 ?_
      refine va_iast hx hb hK hP hD hS 1 0 rfl rfl (vp_lit (by decide) (by decide)) dX6_undo_52 (fun H locs hP hD hS => ?_)
      have hP : va_P (dC, dI) vwCl [(p_this, .inr (6, [.int d_dishes, .int d_speakers, .ref p_speaker, .int d_noises, .ref p_noise, .int d_askers, .ref p_asker, .ref p_st, .ref p_images, .ref p_isKept, .long d_trace, .ref p_text, .int d_texted, .int d_cursor, .int d_start, .int d_token, .int d_number, .long d_word, .int d_isWrong, .int d_saidDishes, .ref p_saidMount, .int d_saidSpeakers, .ref p_saidSpeaker, .int d_saidNoises, .ref p_saidNoise, .int d_saidAskers, .ref p_saidAsker, .ref p_room, .int d_couldBe, .int d_couldHere])), (p_st, .inl (cI, 104, .inl (upd (upd d_st (Int32.toNatClampNeg 2) ((d_st (Int32.toNatClampNeg 2)) - 1)) (Int32.toNatClampNeg 0) (((upd d_st (Int32.toNatClampNeg 2) ((d_st (Int32.toNatClampNeg 2)) - 1)) (Int32.toNatClampNeg 0)) - 1))))] H := hP
      have hD : va_D A [(p_this, .inr (6, [.int d_dishes, .int d_speakers, .ref p_speaker, .int d_noises, .ref p_noise, .int d_askers, .ref p_asker, .ref p_st, .ref p_images, .ref p_isKept, .long d_trace, .ref p_text, .int d_texted, .int d_cursor, .int d_start, .int d_token, .int d_number, .long d_word, .int d_isWrong, .int d_saidDishes, .ref p_saidMount, .int d_saidSpeakers, .ref p_saidSpeaker, .int d_saidNoises, .ref p_saidNoise, .int d_saidAskers, .ref p_saidAsker, .ref p_room, .int d_couldBe, .int d_couldHere])), (p_st, .inl (cI, 104, .inl (upd (upd d_st (Int32.toNatClampNeg 2) ((d_st (Int32.toNatClampNeg 2)) - 1)) (Int32.toNatClampNeg 0) (((upd d_st (Int32.toNatClampNeg 2) ((d_st (Int32.toNatClampNeg 2)) - 1)) (Int32.toNatClampNeg 0)) - 1))))] := hD
      refine lv_goto (tgt := 77) hx hb dX6_undo_53 (by decide) ?_
      exact J77 (upd (upd d_st (Int32.toNatClampNeg 2) ((d_st (Int32.toNatClampNeg 2)) - 1)) (Int32.toNatClampNeg 0) (((upd d_st (Int32.toNatClampNeg 2) ((d_st (Int32.toNatClampNeg 2)) - 1)) (Int32.toNatClampNeg 0)) - 1)) H locs hP hD hS ls (lv_sub hl [1] rfl) hrun
  · rw [if_pos c_6] at hrun
    refine lv_bipush (v := (-2)) hx hb dX6_undo_9 (by decide) ?_
    have hrun := Option.some.inj hrun
    subst hrun
    rw [hQ]
    exact W.iret (v := (-2)) hx hb hr (fun t ht hW => ⟨⟨(-2), (), rfl, rfl, by rw [ht]; exact hP, hD⟩, hS.F ht⟩) hS.2.2 dX6_undo_11
-- SkyListenersModel.areHours
def f_X6_areHours (x0 : Int32) (x1 : Int32) : Int32 := (if (f_X6_isHour x0) = 0 then (0) else (if (f_X6_isHour x1) = 0 then (0) else (if x1 < x0 then (0) else (1))))
theorem b_X6_areHours (x0 : Int32) (x1 : Int32) : f_X6_areHours x0 x1 = 0 ∨ f_X6_areHours x0 x1 = 1 := by unfold f_X6_areHours; first | (repeat' split) <;> first | exact Or.inl rfl | exact Or.inr rfl | exact b_X6_isHour ..
set_option maxHeartbeats 4000000 in
set_option maxRecDepth 100000 in
theorem c_X6_areHours (l : Launch) (dC : Nat → ClassId) (dI : Nat → Nat → Nat) (cI cZ : ClassId) (sz : Nat) (x0 : Int32) (x1 : Int32) (out : Int32) (hrun : f_X6_areHours x0 x1 = out) : Met l yX6_areHours wsX6_areHours ({ frames := 2, cells := 0, slots := 0, locals := 42 } : Room) (va_Pc [.int x0, .int x1] (PC dC dI cI cZ sz ([] : va_W))) (va_Qi (fun r (_ : Unit) => r = out) (fun _ t => va_P (dC, dI) vwCl [] t.heap ∧ va_D (va_A ([] : va_W) sz) []) (va_A ([] : va_W) sz)) 0 0 (va_A ([] : va_W) sz) := by
  refine Met.ofW (cc := cX6_areHours) (maxL := 2) (ret := (some .boolean)) (by decide) rfl ?_
  intro p e s m args below meth c s₁ B hml hv
  obtain ⟨rfl, hsz, hP, hK, hD0, hN⟩ := hv
  have hx := B.exec
  have hb := B.bytes
  have hr := B.returns
  have hts := atoms_spec (ws := wsX6_areHours) B.pre
  have hown : s.vm.findClass RX6 = some m.cls := findClass_of_methodNamed B.named
  have hlocks := B.notSynchronized
  subst hsz
  have hD := hD0.self (sz := s.heap.size)
  generalize hAe : va_A ([] : va_W) s.heap.size = A at hD ⊢
  have hA : ∀ q : Nat, s.heap.size ≤ q → A q := fun q h => by rw [← hAe]; exact Or.inr h
  have hS : va_S A s.heap s.heap [] := va_S.rf
  refine W_abs (fun Q hQ => ?_)
  have hl := lv_entry ([.int x0, .int x1]) (n := 2) (Nat.le_of_ble_eq_true rfl)
  rw [lg_entry_eq]
  generalize (lg_sl ([.int x0, .int x1]) ++ List.replicate (2 - (lg_sl ([.int x0, .int x1])).length) Slot.unset).toArray = ls at hl ⊢
  have hl : lv_has ls 2 [(0, .int x0), (1, .int x1)] := hl
  rw [f_X6_areHours] at hrun
  refine W_start (ws := []) hP hS (fun H locs hP hS => ?_)
  refine lv_iload_n hx hb dX6_areHours_0 rfl (lv_at hl 0 rfl) ?_
  have hPc : va_P (dC, dI) vwCl [] H := hP.sub [] rfl
  have hDc : va_D A [] := hD.sub [] (by decide) rfl
  have hFc := va_free (wc := []) hD hS hA [] rfl
  refine va_calli (va_runS (As := [.int x0]) (rest := []) ⟨hx, hb, hml, hown, hts⟩ (c_X6_isHour l dC dI cI cZ H.size x0 (f_X6_isHour x0) rfl) (va_cwS 1 hts gX6_areHours_X6_isHour rfl rfl rfl (by decide +kernel) ⟨Nat.le_of_ble_eq_true rfl, Nat.le_of_ble_eq_true rfl⟩) ⟨fun a U g mk q => ⟨q.1, PC.mv q.2⟩, fun U hU hW => ⟨rfl, PC.of hU hW hPc hK hDc hN⟩⟩ rfl rfl hl.1 rfl (lv_room (Nat.le_of_ble_eq_true rfl)) dX6_areHours_1 ⟨Nat.zero_le _, Nat.zero_le _⟩) hS (fun q _ h => hFc q h) hFc (fun r_1 u t H1 locs ht hvm hw hB hz1 hk1 hS => ?_)
  obtain ⟨hP1, hD1⟩ := hB
  try dsimp only at hw
  rw [hw]
  rw [ht] at hP1
  have hP : va_P (dC, dI) vwCl [] H1 := join_ro hP hD [] rfl hk1 hP1
  clear hPc hDc hFc hk1 hz1 hP1 hD1 ht hvm
  generalize H1 = H at hP hS ⊢
  refine lv_if_eq (tgt := 23) hx hb dX6_areHours_4 (by decide) (fun c_4 => ?_) (fun c_4 => ?_)
  · rw [if_pos c_4] at hrun
    refine lv_iconst (v := 0) hx hb dX6_areHours_23 (by decide) ?_
    have hrun := hrun
    subst hrun
    rw [hQ]
    exact W.zret (v := 0) (ty := .boolean) hx hb hr rfl (fun t ht hW => ⟨⟨0, (), rfl, rfl, by rw [ht]; exact hP, hD⟩, hS.F ht⟩) hS.2.2 dX6_areHours_24
  · rw [if_neg c_4] at hrun
    refine lv_iload_n hx hb dX6_areHours_7 rfl (lv_at hl 1 rfl) ?_
    have hPc : va_P (dC, dI) vwCl [] H := hP.sub [] rfl
    have hDc : va_D A [] := hD.sub [] (by decide) rfl
    have hFc := va_free (wc := []) hD hS hA [] rfl
    refine va_calli (va_runS (As := [.int x1]) (rest := []) ⟨hx, hb, hml, hown, hts⟩ (c_X6_isHour l dC dI cI cZ H.size x1 (f_X6_isHour x1) rfl) (va_cwS 1 hts gX6_areHours_X6_isHour rfl rfl rfl (by decide +kernel) ⟨Nat.le_of_ble_eq_true rfl, Nat.le_of_ble_eq_true rfl⟩) ⟨fun a U g mk q => ⟨q.1, PC.mv q.2⟩, fun U hU hW => ⟨rfl, PC.of hU hW hPc hK hDc hN⟩⟩ rfl rfl hl.1 rfl (lv_room (Nat.le_of_ble_eq_true rfl)) dX6_areHours_8 ⟨Nat.zero_le _, Nat.zero_le _⟩) hS (fun q _ h => hFc q h) hFc (fun r_8 u t H1 locs ht hvm hw hB hz1 hk1 hS => ?_)
    obtain ⟨hP1, hD1⟩ := hB
    try dsimp only at hw
    rw [hw]
    rw [ht] at hP1
    have hP : va_P (dC, dI) vwCl [] H1 := join_ro hP hD [] rfl hk1 hP1
    clear hPc hDc hFc hk1 hz1 hP1 hD1 ht hvm
    generalize H1 = H at hP hS ⊢
    refine lv_if_eq (tgt := 23) hx hb dX6_areHours_11 (by decide) (fun c_11 => ?_) (fun c_11 => ?_)
    · rw [if_pos c_11] at hrun
      refine lv_iconst (v := 0) hx hb dX6_areHours_23 (by decide) ?_
      have hrun := hrun
      subst hrun
      rw [hQ]
      exact W.zret (v := 0) (ty := .boolean) hx hb hr rfl (fun t ht hW => ⟨⟨0, (), rfl, rfl, by rw [ht]; exact hP, hD⟩, hS.F ht⟩) hS.2.2 dX6_areHours_24
    · rw [if_neg c_11] at hrun
      refine lv_iload_n hx hb dX6_areHours_14 rfl (lv_at hl 0 rfl) ?_
      refine lv_iload_n hx hb dX6_areHours_15 rfl (lv_at hl 1 rfl) ?_
      refine lv_icmp_gt (tgt := 23) hx hb dX6_areHours_16 (by decide) (fun c_16 => ?_) (fun c_16 => ?_)
      · rw [if_pos c_16] at hrun
        refine lv_iconst (v := 0) hx hb dX6_areHours_23 (by decide) ?_
        have hrun := hrun
        subst hrun
        rw [hQ]
        exact W.zret (v := 0) (ty := .boolean) hx hb hr rfl (fun t ht hW => ⟨⟨0, (), rfl, rfl, by rw [ht]; exact hP, hD⟩, hS.F ht⟩) hS.2.2 dX6_areHours_24
      · rw [if_neg c_16] at hrun
        refine lv_iconst (v := 1) hx hb dX6_areHours_19 (by decide) ?_
        refine lv_goto (tgt := 24) hx hb dX6_areHours_20 (by decide) ?_
        have hrun := hrun
        subst hrun
        rw [hQ]
        exact W.zret (v := 1) (ty := .boolean) hx hb hr rfl (fun t ht hW => ⟨⟨1, (), rfl, rfl, by rw [ht]; exact hP, hD⟩, hS.F ht⟩) hS.2.2 dX6_areHours_24
-- SkyListenersModel.findRoom
def f_X6_findRoom_X62 (K23 : Int32 → (Nat → Int32) → Option ((Nat → Int32))) (x1 : Int32) (x2 : Int32) (x3 : Int32) (d_dishes : Int32) (d_st : Nat → Int32) (d_room : Nat → Int32) : Option ((Nat → Int32)) := (K23 (x3 + 1) d_room)
def f_X6_findRoom_L34 (K62 : (Nat → Int32) → Option ((Nat → Int32))) (x1 : Int32) (x2 : Int32) (x3 : Int32) (d_dishes : Int32) (d_st : Nat → Int32) : Nat → Int32 → (Nat → Int32) → Option ((Nat → Int32))
  | 0, _, _ => none
  | n9 + 1, x4, d_room => (if x2 < x4 then (K62 d_room) else ((f_X6_looksOf d_st x3 x4).bind fun q48 => (if q48 < 0 ∨ 8 ≤ q48.toNatClampNeg then none else (if q48 < 0 ∨ 8 ≤ q48.toNatClampNeg then none else (f_X6_findRoom_L34 K62 x1 x2 x3 d_dishes d_st n9 (x4 + 1) (upd d_room q48.toNatClampNeg ((d_room q48.toNatClampNeg) + 1)))))))
def f_X6_findRoom_L23 (x1 : Int32) (x2 : Int32) (d_dishes : Int32) (d_st : Nat → Int32) : Nat → Int32 → (Nat → Int32) → Option ((Nat → Int32))
  | 0, _, _ => none
  | n9 + 1, x3, d_room => (if d_dishes ≤ x3 then (some d_room) else (f_X6_findRoom_L34 (f_X6_findRoom_X62 (f_X6_findRoom_L23  x1 x2 d_dishes d_st n9) x1 x2 x3 d_dishes d_st) x1 x2 x3 d_dishes d_st FU x1 d_room))
def f_X6_findRoom_X21 (x1 : Int32) (x2 : Int32) (d_dishes : Int32) (d_st : Nat → Int32) (d_room : Nat → Int32) : Option ((Nat → Int32)) := (f_X6_findRoom_L23 x1 x2 d_dishes d_st FU 0 d_room)
def f_X6_findRoom_L2 (K21 : (Nat → Int32) → Option ((Nat → Int32))) (x1 : Int32) (x2 : Int32) (d_dishes : Int32) (d_st : Nat → Int32) : Nat → Int32 → (Nat → Int32) → Option ((Nat → Int32))
  | 0, _, _ => none
  | n9 + 1, x3, d_room => (if 8 ≤ x3 then (K21 d_room) else (if x3 < 0 ∨ 8 ≤ x3.toNatClampNeg then none else (f_X6_findRoom_L2 K21 x1 x2 d_dishes d_st n9 (x3 + 1) (upd d_room x3.toNatClampNeg 0))))
def f_X6_findRoom (d_dishes : Int32) (d_room : Nat → Int32) (d_st : Nat → Int32) (x1 : Int32) (x2 : Int32) : Option ((Nat → Int32)) := (f_X6_findRoom_L2 (f_X6_findRoom_X21 x1 x2 d_dishes d_st) x1 x2 d_dishes d_st FU 0 d_room)
set_option maxHeartbeats 4000000 in
set_option maxRecDepth 100000 in
theorem c_X6_findRoom (l : Launch) (dC : Nat → ClassId) (dI : Nat → Nat → Nat) (cI cZ : ClassId) (sz : Nat) (p_asker p_images p_isKept p_noise p_room p_saidAsker p_saidMount p_saidNoise p_saidSpeaker p_speaker p_st p_text p_this : Nat) (d_dishes : Int32) (d_speakers : Int32) (d_noises : Int32) (d_askers : Int32) (d_trace : Int64) (d_texted : Int32) (d_cursor : Int32) (d_start : Int32) (d_token : Int32) (d_number : Int32) (d_word : Int64) (d_isWrong : Int32) (d_saidDishes : Int32) (d_saidSpeakers : Int32) (d_saidNoises : Int32) (d_saidAskers : Int32) (d_couldBe : Int32) (d_couldHere : Int32) (d_room : Nat → Int32) (d_st : Nat → Int32) (x1 : Int32) (x2 : Int32) (out : (Nat → Int32)) (hrun : f_X6_findRoom d_dishes d_room d_st x1 x2 = some out) : Met l yX6_findRoom wsX6_findRoom ({ frames := 1, cells := 0, slots := 0, locals := 22 } : Room) (va_Pc [.ref p_this, .int x1, .int x2] (PC dC dI cI cZ sz ([(p_this, .inr (6, [.int d_dishes, .int d_speakers, .ref p_speaker, .int d_noises, .ref p_noise, .int d_askers, .ref p_asker, .ref p_st, .ref p_images, .ref p_isKept, .long d_trace, .ref p_text, .int d_texted, .int d_cursor, .int d_start, .int d_token, .int d_number, .long d_word, .int d_isWrong, .int d_saidDishes, .ref p_saidMount, .int d_saidSpeakers, .ref p_saidSpeaker, .int d_saidNoises, .ref p_saidNoise, .int d_saidAskers, .ref p_saidAsker, .ref p_room, .int d_couldBe, .int d_couldHere])), (p_room, .inl (cI, 8, .inl d_room)), (p_st, .inl (cI, 104, .inl d_st))] : va_W))) (va_Qv (fun (_ : Unit) => True) (fun _ t => va_P (dC, dI) vwCl [(p_this, .inr (6, [.int d_dishes, .int d_speakers, .ref p_speaker, .int d_noises, .ref p_noise, .int d_askers, .ref p_asker, .ref p_st, .ref p_images, .ref p_isKept, .long d_trace, .ref p_text, .int d_texted, .int d_cursor, .int d_start, .int d_token, .int d_number, .long d_word, .int d_isWrong, .int d_saidDishes, .ref p_saidMount, .int d_saidSpeakers, .ref p_saidSpeaker, .int d_saidNoises, .ref p_saidNoise, .int d_saidAskers, .ref p_saidAsker, .ref p_room, .int d_couldBe, .int d_couldHere])), (p_room, .inl (cI, 8, .inl out)), (p_st, .inl (cI, 104, .inl d_st))] t.heap ∧ va_D (va_A ([(p_this, .inr (6, [.int d_dishes, .int d_speakers, .ref p_speaker, .int d_noises, .ref p_noise, .int d_askers, .ref p_asker, .ref p_st, .ref p_images, .ref p_isKept, .long d_trace, .ref p_text, .int d_texted, .int d_cursor, .int d_start, .int d_token, .int d_number, .long d_word, .int d_isWrong, .int d_saidDishes, .ref p_saidMount, .int d_saidSpeakers, .ref p_saidSpeaker, .int d_saidNoises, .ref p_saidNoise, .int d_saidAskers, .ref p_saidAsker, .ref p_room, .int d_couldBe, .int d_couldHere])), (p_room, .inl (cI, 8, .inl d_room)), (p_st, .inl (cI, 104, .inl d_st))] : va_W) sz) [(p_this, .inr (6, [.int d_dishes, .int d_speakers, .ref p_speaker, .int d_noises, .ref p_noise, .int d_askers, .ref p_asker, .ref p_st, .ref p_images, .ref p_isKept, .long d_trace, .ref p_text, .int d_texted, .int d_cursor, .int d_start, .int d_token, .int d_number, .long d_word, .int d_isWrong, .int d_saidDishes, .ref p_saidMount, .int d_saidSpeakers, .ref p_saidSpeaker, .int d_saidNoises, .ref p_saidNoise, .int d_saidAskers, .ref p_saidAsker, .ref p_room, .int d_couldBe, .int d_couldHere])), (p_room, .inl (cI, 8, .inl out)), (p_st, .inl (cI, 104, .inl d_st))]) (va_A ([(p_this, .inr (6, [.int d_dishes, .int d_speakers, .ref p_speaker, .int d_noises, .ref p_noise, .int d_askers, .ref p_asker, .ref p_st, .ref p_images, .ref p_isKept, .long d_trace, .ref p_text, .int d_texted, .int d_cursor, .int d_start, .int d_token, .int d_number, .long d_word, .int d_isWrong, .int d_saidDishes, .ref p_saidMount, .int d_saidSpeakers, .ref p_saidSpeaker, .int d_saidNoises, .ref p_saidNoise, .int d_saidAskers, .ref p_saidAsker, .ref p_room, .int d_couldBe, .int d_couldHere])), (p_room, .inl (cI, 8, .inl d_room)), (p_st, .inl (cI, 104, .inl d_st))] : va_W) sz)) 0 0 (va_A ([(p_this, .inr (6, [.int d_dishes, .int d_speakers, .ref p_speaker, .int d_noises, .ref p_noise, .int d_askers, .ref p_asker, .ref p_st, .ref p_images, .ref p_isKept, .long d_trace, .ref p_text, .int d_texted, .int d_cursor, .int d_start, .int d_token, .int d_number, .long d_word, .int d_isWrong, .int d_saidDishes, .ref p_saidMount, .int d_saidSpeakers, .ref p_saidSpeaker, .int d_saidNoises, .ref p_saidNoise, .int d_saidAskers, .ref p_saidAsker, .ref p_room, .int d_couldBe, .int d_couldHere])), (p_room, .inl (cI, 8, .inl d_room)), (p_st, .inl (cI, 104, .inl d_st))] : va_W) sz) := by
  refine Met.ofW (cc := cX6_findRoom) (maxL := 5) (ret := none) (by decide) rfl ?_
  intro p e s m args below meth c s₁ B hml hv
  obtain ⟨rfl, hsz, hP, hK, hD0, hN⟩ := hv
  have hx := B.exec
  have hb := B.bytes
  have hr := B.returns
  have hts := atoms_spec (ws := wsX6_findRoom) B.pre
  have hown : s.vm.findClass RX6 = some m.cls := findClass_of_methodNamed B.named
  have hlocks := B.notSynchronized
  subst hsz
  have hD := hD0.self (sz := s.heap.size)
  generalize hAe : va_A ([(p_this, .inr (6, [.int d_dishes, .int d_speakers, .ref p_speaker, .int d_noises, .ref p_noise, .int d_askers, .ref p_asker, .ref p_st, .ref p_images, .ref p_isKept, .long d_trace, .ref p_text, .int d_texted, .int d_cursor, .int d_start, .int d_token, .int d_number, .long d_word, .int d_isWrong, .int d_saidDishes, .ref p_saidMount, .int d_saidSpeakers, .ref p_saidSpeaker, .int d_saidNoises, .ref p_saidNoise, .int d_saidAskers, .ref p_saidAsker, .ref p_room, .int d_couldBe, .int d_couldHere])), (p_room, .inl (cI, 8, .inl d_room)), (p_st, .inl (cI, 104, .inl d_st))] : va_W) s.heap.size = A at hD ⊢
  have hA : ∀ q : Nat, s.heap.size ≤ q → A q := fun q h => by rw [← hAe]; exact Or.inr h
  have hS : va_S A s.heap s.heap [] := va_S.rf
  refine W_abs (fun Q hQ => ?_)
  have hl := lv_entry ([.ref p_this, .int x1, .int x2]) (n := 5) (Nat.le_of_ble_eq_true rfl)
  rw [lg_entry_eq]
  generalize (lg_sl ([.ref p_this, .int x1, .int x2]) ++ List.replicate (5 - (lg_sl ([.ref p_this, .int x1, .int x2])).length) Slot.unset).toArray = ls at hl ⊢
  have hl : lv_has ls 5 [(0, .ref p_this), (1, .int x1), (2, .int x2)] := hl
  rw [f_X6_findRoom] at hrun
  refine W_start (ws := [(p_this, .inr (6, [.int d_dishes, .int d_speakers, .ref p_speaker, .int d_noises, .ref p_noise, .int d_askers, .ref p_asker, .ref p_st, .ref p_images, .ref p_isKept, .long d_trace, .ref p_text, .int d_texted, .int d_cursor, .int d_start, .int d_token, .int d_number, .long d_word, .int d_isWrong, .int d_saidDishes, .ref p_saidMount, .int d_saidSpeakers, .ref p_saidSpeaker, .int d_saidNoises, .ref p_saidNoise, .int d_saidAskers, .ref p_saidAsker, .ref p_room, .int d_couldBe, .int d_couldHere])), (p_room, .inl (cI, 8, .inl d_room)), (p_st, .inl (cI, 104, .inl d_st))]) hP hS (fun H locs hP hS => ?_)
  have iwX6 : ∀ w ∈ wsX60, w ∈ wsX6_findRoom := by decide +kernel
  refine lv_iconst (v := 0) hx hb dX6_findRoom_0 (by decide) ?_
  refine lv_istore_n (lv' := [(3, .int 0), (0, .ref p_this), (1, .int x1), (2, .int x2)]) hx hb dX6_findRoom_1 rfl hl (by decide) rfl (fun ls hl => ?_)
  have X21 : ∀ (d_room_21 : Nat → Int32) (H : Heap) (locs : List Loc), va_P (dC, dI) vwCl [(p_this, .inr (6, [.int d_dishes, .int d_speakers, .ref p_speaker, .int d_noises, .ref p_noise, .int d_askers, .ref p_asker, .ref p_st, .ref p_images, .ref p_isKept, .long d_trace, .ref p_text, .int d_texted, .int d_cursor, .int d_start, .int d_token, .int d_number, .long d_word, .int d_isWrong, .int d_saidDishes, .ref p_saidMount, .int d_saidSpeakers, .ref p_saidSpeaker, .int d_saidNoises, .ref p_saidNoise, .int d_saidAskers, .ref p_saidAsker, .ref p_room, .int d_couldBe, .int d_couldHere])), (p_room, .inl (cI, 8, .inl d_room_21)), (p_st, .inl (cI, 104, .inl d_st))] H → va_D A [(p_this, .inr (6, [.int d_dishes, .int d_speakers, .ref p_speaker, .int d_noises, .ref p_noise, .int d_askers, .ref p_asker, .ref p_st, .ref p_images, .ref p_isKept, .long d_trace, .ref p_text, .int d_texted, .int d_cursor, .int d_start, .int d_token, .int d_number, .long d_word, .int d_isWrong, .int d_saidDishes, .ref p_saidMount, .int d_saidSpeakers, .ref p_saidSpeaker, .int d_saidNoises, .ref p_saidNoise, .int d_saidAskers, .ref p_saidAsker, .ref p_room, .int d_couldBe, .int d_couldHere])), (p_room, .inl (cI, 8, .inl d_room_21)), (p_st, .inl (cI, 104, .inl d_st))] → va_S A s.heap H locs → ∀ ls : Array Slot, lv_has ls 5 [(0, .ref p_this), (1, .int x1), (2, .int x2)] → f_X6_findRoom_X21 x1 x2 d_dishes d_st d_room_21 = some out → W p l e ({ frames := 1, cells := 0, slots := 0, locals := 22 } : Room) s m ([.ref p_this, .int x1, .int x2] : List Value).toArray below meth c H locs 0 0 Q (F0 m 21 ls []) := by
    intro d_room_21 H locs hP hD hS ls hl hrun
    rw [f_X6_findRoom_X21] at hrun
    refine lv_iconst (v := 0) hx hb dX6_findRoom_21 (by decide) ?_
    refine lv_istore_n (lv' := [(3, .int 0), (0, .ref p_this), (1, .int x1), (2, .int x2)]) hx hb dX6_findRoom_22 rfl hl (by decide) rfl (fun ls hl => ?_)
    have L23 : ∀ (n9_23 : Nat) (x3_23 : Int32) (d_room_23 : Nat → Int32) (H : Heap) (locs : List Loc), va_P (dC, dI) vwCl [(p_this, .inr (6, [.int d_dishes, .int d_speakers, .ref p_speaker, .int d_noises, .ref p_noise, .int d_askers, .ref p_asker, .ref p_st, .ref p_images, .ref p_isKept, .long d_trace, .ref p_text, .int d_texted, .int d_cursor, .int d_start, .int d_token, .int d_number, .long d_word, .int d_isWrong, .int d_saidDishes, .ref p_saidMount, .int d_saidSpeakers, .ref p_saidSpeaker, .int d_saidNoises, .ref p_saidNoise, .int d_saidAskers, .ref p_saidAsker, .ref p_room, .int d_couldBe, .int d_couldHere])), (p_room, .inl (cI, 8, .inl d_room_23)), (p_st, .inl (cI, 104, .inl d_st))] H → va_D A [(p_this, .inr (6, [.int d_dishes, .int d_speakers, .ref p_speaker, .int d_noises, .ref p_noise, .int d_askers, .ref p_asker, .ref p_st, .ref p_images, .ref p_isKept, .long d_trace, .ref p_text, .int d_texted, .int d_cursor, .int d_start, .int d_token, .int d_number, .long d_word, .int d_isWrong, .int d_saidDishes, .ref p_saidMount, .int d_saidSpeakers, .ref p_saidSpeaker, .int d_saidNoises, .ref p_saidNoise, .int d_saidAskers, .ref p_saidAsker, .ref p_room, .int d_couldBe, .int d_couldHere])), (p_room, .inl (cI, 8, .inl d_room_23)), (p_st, .inl (cI, 104, .inl d_st))] → va_S A s.heap H locs → ∀ ls : Array Slot, lv_has ls 5 [(0, .ref p_this), (1, .int x1), (2, .int x2), (3, .int x3_23)] → f_X6_findRoom_L23 x1 x2 d_dishes d_st n9_23 x3_23 d_room_23 = some out → W p l e ({ frames := 1, cells := 0, slots := 0, locals := 22 } : Room) s m ([.ref p_this, .int x1, .int x2] : List Value).toArray below meth c H locs 0 0 Q (F0 m 23 ls []) := by
      intro n9_23
      induction n9_23 with
      | zero =>
        intro x3_23 d_room_23 H locs hP hD hS ls hl hrun
        rw [f_X6_findRoom_L23] at hrun
        cases hrun
      | succ n9_23 ih23 =>
        intro x3_23 d_room_23 H locs hP hD hS ls hl hrun
        rw [f_X6_findRoom_L23] at hrun
        refine lv_iload_n hx hb dX6_findRoom_23 rfl (lv_at hl 3 rfl) ?_
        refine lv_aload_n hx hb dX6_findRoom_24 rfl (lv_at hl 0 rfl) ?_
        refine va_get (D := (dC, dI)) (ci := 6) (v := .int d_dishes) (C := RX6) (T := TX6) (N := 30) hx hb hts iwX6 hown hK hP 0 rfl rfl 0 (by decide) (hts (.fieldLink RX6 47 "SkyListenersModel" "dishes" "I") (by decide +kernel)) (fun _ h9 => h9) rfl dX6_findRoom_25 ?_
        refine lv_icmp_ge (tgt := 68) hx hb dX6_findRoom_28 (by decide) (fun c_28 => ?_) (fun c_28 => ?_)
        · rw [if_pos c_28] at hrun
          have hrun := Option.some.inj hrun
          subst hrun
          rw [hQ]
          exact W.vret hx hb hr (fun t ht hW => ⟨⟨(), rfl, trivial, by rw [ht]; exact hP, hD⟩, hS.F ht⟩) hS.2.2 dX6_findRoom_68
        · rw [if_neg c_28] at hrun
          refine lv_iload_n hx hb dX6_findRoom_31 rfl (lv_at hl 1 rfl) ?_
          refine lv_istore (lv' := [(4, .int x1), (0, .ref p_this), (1, .int x1), (2, .int x2), (3, .int x3_23)]) hx hb dX6_findRoom_32 hl (by decide) rfl (fun ls hl => ?_)
          have X62 : ∀ (d_room_62 : Nat → Int32) (H : Heap) (locs : List Loc), va_P (dC, dI) vwCl [(p_this, .inr (6, [.int d_dishes, .int d_speakers, .ref p_speaker, .int d_noises, .ref p_noise, .int d_askers, .ref p_asker, .ref p_st, .ref p_images, .ref p_isKept, .long d_trace, .ref p_text, .int d_texted, .int d_cursor, .int d_start, .int d_token, .int d_number, .long d_word, .int d_isWrong, .int d_saidDishes, .ref p_saidMount, .int d_saidSpeakers, .ref p_saidSpeaker, .int d_saidNoises, .ref p_saidNoise, .int d_saidAskers, .ref p_saidAsker, .ref p_room, .int d_couldBe, .int d_couldHere])), (p_room, .inl (cI, 8, .inl d_room_62)), (p_st, .inl (cI, 104, .inl d_st))] H → va_D A [(p_this, .inr (6, [.int d_dishes, .int d_speakers, .ref p_speaker, .int d_noises, .ref p_noise, .int d_askers, .ref p_asker, .ref p_st, .ref p_images, .ref p_isKept, .long d_trace, .ref p_text, .int d_texted, .int d_cursor, .int d_start, .int d_token, .int d_number, .long d_word, .int d_isWrong, .int d_saidDishes, .ref p_saidMount, .int d_saidSpeakers, .ref p_saidSpeaker, .int d_saidNoises, .ref p_saidNoise, .int d_saidAskers, .ref p_saidAsker, .ref p_room, .int d_couldBe, .int d_couldHere])), (p_room, .inl (cI, 8, .inl d_room_62)), (p_st, .inl (cI, 104, .inl d_st))] → va_S A s.heap H locs → ∀ ls : Array Slot, lv_has ls 5 [(0, .ref p_this), (1, .int x1), (2, .int x2), (3, .int x3_23)] → f_X6_findRoom_X62 (f_X6_findRoom_L23 x1 x2 d_dishes d_st n9_23) x1 x2 x3_23 d_dishes d_st d_room_62 = some out → W p l e ({ frames := 1, cells := 0, slots := 0, locals := 22 } : Room) s m ([.ref p_this, .int x1, .int x2] : List Value).toArray below meth c H locs 0 0 Q (F0 m 62 ls []) := by
            intro d_room_62 H locs hP hD hS ls hl hrun
            rw [f_X6_findRoom_X62] at hrun
            refine lv_iinc (v := x3_23 + 1) (lv' := [(3, .int (x3_23 + 1)), (0, .ref p_this), (1, .int x1), (2, .int x2)]) hx hb dX6_findRoom_62 hl (k := 3) rfl rfl (by decide) rfl (fun ls hl => ?_)
            refine lv_goto (tgt := 23) hx hb dX6_findRoom_65 (by decide) ?_
            exact ih23 (x3_23 + 1) d_room_62 H locs hP hD hS ls (lv_sub hl [1, 2, 3, 0] rfl) hrun
          have L34 : ∀ (n9_34 : Nat) (x4_34 : Int32) (d_room_34 : Nat → Int32) (H : Heap) (locs : List Loc), va_P (dC, dI) vwCl [(p_this, .inr (6, [.int d_dishes, .int d_speakers, .ref p_speaker, .int d_noises, .ref p_noise, .int d_askers, .ref p_asker, .ref p_st, .ref p_images, .ref p_isKept, .long d_trace, .ref p_text, .int d_texted, .int d_cursor, .int d_start, .int d_token, .int d_number, .long d_word, .int d_isWrong, .int d_saidDishes, .ref p_saidMount, .int d_saidSpeakers, .ref p_saidSpeaker, .int d_saidNoises, .ref p_saidNoise, .int d_saidAskers, .ref p_saidAsker, .ref p_room, .int d_couldBe, .int d_couldHere])), (p_room, .inl (cI, 8, .inl d_room_34)), (p_st, .inl (cI, 104, .inl d_st))] H → va_D A [(p_this, .inr (6, [.int d_dishes, .int d_speakers, .ref p_speaker, .int d_noises, .ref p_noise, .int d_askers, .ref p_asker, .ref p_st, .ref p_images, .ref p_isKept, .long d_trace, .ref p_text, .int d_texted, .int d_cursor, .int d_start, .int d_token, .int d_number, .long d_word, .int d_isWrong, .int d_saidDishes, .ref p_saidMount, .int d_saidSpeakers, .ref p_saidSpeaker, .int d_saidNoises, .ref p_saidNoise, .int d_saidAskers, .ref p_saidAsker, .ref p_room, .int d_couldBe, .int d_couldHere])), (p_room, .inl (cI, 8, .inl d_room_34)), (p_st, .inl (cI, 104, .inl d_st))] → va_S A s.heap H locs → ∀ ls : Array Slot, lv_has ls 5 [(0, .ref p_this), (1, .int x1), (2, .int x2), (3, .int x3_23), (4, .int x4_34)] → f_X6_findRoom_L34 (f_X6_findRoom_X62 (f_X6_findRoom_L23 x1 x2 d_dishes d_st n9_23) x1 x2 x3_23 d_dishes d_st) x1 x2 x3_23 d_dishes d_st n9_34 x4_34 d_room_34 = some out → W p l e ({ frames := 1, cells := 0, slots := 0, locals := 22 } : Room) s m ([.ref p_this, .int x1, .int x2] : List Value).toArray below meth c H locs 0 0 Q (F0 m 34 ls []) := by
            intro n9_34
            induction n9_34 with
            | zero =>
              intro x4_34 d_room_34 H locs hP hD hS ls hl hrun
              rw [f_X6_findRoom_L34] at hrun
              cases hrun
            | succ n9_34 ih34 =>
              intro x4_34 d_room_34 H locs hP hD hS ls hl hrun
              rw [f_X6_findRoom_L34] at hrun
              refine lv_iload hx hb dX6_findRoom_34 (lv_at hl 4 rfl) ?_
              refine lv_iload_n hx hb dX6_findRoom_36 rfl (lv_at hl 2 rfl) ?_
              refine lv_icmp_gt (tgt := 62) hx hb dX6_findRoom_37 (by decide) (fun c_37 => ?_) (fun c_37 => ?_)
              · rw [if_pos c_37] at hrun
                exact X62 d_room_34 H locs hP hD hS ls (lv_sub hl [0, 1, 2, 3] rfl) hrun
              · rw [if_neg c_37] at hrun
                refine lv_aload_n hx hb dX6_findRoom_40 rfl (lv_at hl 0 rfl) ?_
                refine va_get (D := (dC, dI)) (ci := 6) (v := .ref p_room) (C := RX6) (T := TX6) (N := 30) hx hb hts iwX6 hown hK hP 0 rfl rfl 27 (by decide) (hts (.fieldLink RX6 44 "SkyListenersModel" "room" "[I") (by decide +kernel)) (fun _ h9 => h9) rfl dX6_findRoom_41 ?_
                refine lv_aload_n hx hb dX6_findRoom_44 rfl (lv_at hl 0 rfl) ?_
                refine lv_iload_n hx hb dX6_findRoom_45 rfl (lv_at hl 3 rfl) ?_
                refine lv_iload hx hb dX6_findRoom_46 (lv_at hl 4 rfl) ?_
                obtain ⟨q48, hq48, hrun⟩ := bind_out hrun
                have hPc : va_P (dC, dI) vwCl [(p_this, .inr (6, [.int d_dishes, .int d_speakers, .ref p_speaker, .int d_noises, .ref p_noise, .int d_askers, .ref p_asker, .ref p_st, .ref p_images, .ref p_isKept, .long d_trace, .ref p_text, .int d_texted, .int d_cursor, .int d_start, .int d_token, .int d_number, .long d_word, .int d_isWrong, .int d_saidDishes, .ref p_saidMount, .int d_saidSpeakers, .ref p_saidSpeaker, .int d_saidNoises, .ref p_saidNoise, .int d_saidAskers, .ref p_saidAsker, .ref p_room, .int d_couldBe, .int d_couldHere])), (p_st, .inl (cI, 104, .inl d_st))] H := hP.sub [0, 2] rfl
                have hDc : va_D A [(p_this, .inr (6, [.int d_dishes, .int d_speakers, .ref p_speaker, .int d_noises, .ref p_noise, .int d_askers, .ref p_asker, .ref p_st, .ref p_images, .ref p_isKept, .long d_trace, .ref p_text, .int d_texted, .int d_cursor, .int d_start, .int d_token, .int d_number, .long d_word, .int d_isWrong, .int d_saidDishes, .ref p_saidMount, .int d_saidSpeakers, .ref p_saidSpeaker, .int d_saidNoises, .ref p_saidNoise, .int d_saidAskers, .ref p_saidAsker, .ref p_room, .int d_couldBe, .int d_couldHere])), (p_st, .inl (cI, 104, .inl d_st))] := hD.sub [0, 2] (by decide) rfl
                have hFc := va_free (wc := [(p_this, .inr (6, [.int d_dishes, .int d_speakers, .ref p_speaker, .int d_noises, .ref p_noise, .int d_askers, .ref p_asker, .ref p_st, .ref p_images, .ref p_isKept, .long d_trace, .ref p_text, .int d_texted, .int d_cursor, .int d_start, .int d_token, .int d_number, .long d_word, .int d_isWrong, .int d_saidDishes, .ref p_saidMount, .int d_saidSpeakers, .ref p_saidSpeaker, .int d_saidNoises, .ref p_saidNoise, .int d_saidAskers, .ref p_saidAsker, .ref p_room, .int d_couldBe, .int d_couldHere])), (p_st, .inl (cI, 104, .inl d_st))]) hD hS hA [0, 2] rfl
                refine va_calli (va_runV (As := [.int x3_23, .int x4_34]) (rest := [.ref p_room]) ⟨hx, hb, hml, hown, hts⟩ (c_X6_looksOf l dC dI cI cZ H.size p_asker p_images p_isKept p_noise p_room p_saidAsker p_saidMount p_saidNoise p_saidSpeaker p_speaker p_st p_text p_this d_dishes d_speakers d_noises d_askers d_trace d_texted d_cursor d_start d_token d_number d_word d_isWrong d_saidDishes d_saidSpeakers d_saidNoises d_saidAskers d_couldBe d_couldHere d_st x3_23 x4_34 q48 hq48) (cwV 2 hts gX6_findRoom_X6_looksOf rfl rfl rfl (by decide +kernel) ⟨Nat.le_of_ble_eq_true rfl, Nat.le_of_ble_eq_true rfl⟩) ⟨fun a U g mk q => ⟨q.1, PC.mv q.2⟩, va_recv hK hP (ci := 6) (q0 := 0) rfl rfl, fun U hU hW => ⟨rfl, PC.of hU hW hPc hK hDc hN⟩⟩ rfl rfl hl.1 rfl (lv_room (Nat.le_of_ble_eq_true rfl)) dX6_findRoom_48 ⟨Nat.zero_le _, Nat.zero_le _⟩) hS (fun q _ h => hFc q h) hFc (fun r_48 u t H1 locs ht hvm hw hB hz1 hk1 hS => ?_)
                obtain ⟨hP1, hD1⟩ := hB
                try dsimp only at hw
                rw [hw]
                rw [ht] at hP1
                have hP : va_P (dC, dI) vwCl [(p_this, .inr (6, [.int d_dishes, .int d_speakers, .ref p_speaker, .int d_noises, .ref p_noise, .int d_askers, .ref p_asker, .ref p_st, .ref p_images, .ref p_isKept, .long d_trace, .ref p_text, .int d_texted, .int d_cursor, .int d_start, .int d_token, .int d_number, .long d_word, .int d_isWrong, .int d_saidDishes, .ref p_saidMount, .int d_saidSpeakers, .ref p_saidSpeaker, .int d_saidNoises, .ref p_saidNoise, .int d_saidAskers, .ref p_saidAsker, .ref p_room, .int d_couldBe, .int d_couldHere])), (p_room, .inl (cI, 8, .inl d_room_34)), (p_st, .inl (cI, 104, .inl d_st))] H1 := join_ro hP hD [0, 2] rfl hk1 hP1
                clear hPc hDc hFc hk1 hz1 hP1 hD1 ht hvm
                generalize H1 = H at hP hS ⊢
                refine lv_dup2_11 hx hb dX6_findRoom_51 rfl rfl ?_
                rcases Classical.em (q48 < 0 ∨ 8 ≤ q48.toNatClampNeg) with g_52 | g_52
                · rw [if_pos g_52] at hrun; cases hrun
                rw [if_neg g_52] at hrun
                refine va_iald hx hb hK hP 1 0 rfl rfl g_52 dX6_findRoom_52 ?_
                refine lv_iconst (v := 1) hx hb dX6_findRoom_53 (by decide) ?_
                refine lv_iadd hx hb dX6_findRoom_54 ?_
                rcases Classical.em (q48 < 0 ∨ 8 ≤ q48.toNatClampNeg) with g_55 | g_55
                · rw [if_pos g_55] at hrun; cases hrun
                rw [if_neg g_55] at hrun
                refine va_iast hx hb hK hP hD hS 1 0 rfl rfl g_55 dX6_findRoom_55 (fun H locs hP hD hS => ?_)
                have hP : va_P (dC, dI) vwCl [(p_this, .inr (6, [.int d_dishes, .int d_speakers, .ref p_speaker, .int d_noises, .ref p_noise, .int d_askers, .ref p_asker, .ref p_st, .ref p_images, .ref p_isKept, .long d_trace, .ref p_text, .int d_texted, .int d_cursor, .int d_start, .int d_token, .int d_number, .long d_word, .int d_isWrong, .int d_saidDishes, .ref p_saidMount, .int d_saidSpeakers, .ref p_saidSpeaker, .int d_saidNoises, .ref p_saidNoise, .int d_saidAskers, .ref p_saidAsker, .ref p_room, .int d_couldBe, .int d_couldHere])), (p_room, .inl (cI, 8, .inl (upd d_room_34 q48.toNatClampNeg ((d_room_34 q48.toNatClampNeg) + 1)))), (p_st, .inl (cI, 104, .inl d_st))] H := hP
                have hD : va_D A [(p_this, .inr (6, [.int d_dishes, .int d_speakers, .ref p_speaker, .int d_noises, .ref p_noise, .int d_askers, .ref p_asker, .ref p_st, .ref p_images, .ref p_isKept, .long d_trace, .ref p_text, .int d_texted, .int d_cursor, .int d_start, .int d_token, .int d_number, .long d_word, .int d_isWrong, .int d_saidDishes, .ref p_saidMount, .int d_saidSpeakers, .ref p_saidSpeaker, .int d_saidNoises, .ref p_saidNoise, .int d_saidAskers, .ref p_saidAsker, .ref p_room, .int d_couldBe, .int d_couldHere])), (p_room, .inl (cI, 8, .inl (upd d_room_34 q48.toNatClampNeg ((d_room_34 q48.toNatClampNeg) + 1)))), (p_st, .inl (cI, 104, .inl d_st))] := hD
                refine lv_iinc (v := x4_34 + 1) (lv' := [(4, .int (x4_34 + 1)), (0, .ref p_this), (1, .int x1), (2, .int x2), (3, .int x3_23)]) hx hb dX6_findRoom_56 hl (k := 4) rfl rfl (by decide) rfl (fun ls hl => ?_)
                refine lv_goto (tgt := 34) hx hb dX6_findRoom_59 (by decide) ?_
                exact ih34 (x4_34 + 1) (upd d_room_34 q48.toNatClampNeg ((d_room_34 q48.toNatClampNeg) + 1)) H locs hP hD hS ls (lv_sub hl [1, 2, 3, 4, 0] rfl) hrun
          exact L34 FU x1 d_room_23 H locs hP hD hS ls (lv_sub hl [1, 2, 3, 4, 0] rfl) hrun
    exact L23 FU 0 d_room_21 H locs hP hD hS ls (lv_sub hl [1, 2, 3, 0] rfl) hrun
  have L2 : ∀ (n9_2 : Nat) (x3_2 : Int32) (d_room_2 : Nat → Int32) (H : Heap) (locs : List Loc), va_P (dC, dI) vwCl [(p_this, .inr (6, [.int d_dishes, .int d_speakers, .ref p_speaker, .int d_noises, .ref p_noise, .int d_askers, .ref p_asker, .ref p_st, .ref p_images, .ref p_isKept, .long d_trace, .ref p_text, .int d_texted, .int d_cursor, .int d_start, .int d_token, .int d_number, .long d_word, .int d_isWrong, .int d_saidDishes, .ref p_saidMount, .int d_saidSpeakers, .ref p_saidSpeaker, .int d_saidNoises, .ref p_saidNoise, .int d_saidAskers, .ref p_saidAsker, .ref p_room, .int d_couldBe, .int d_couldHere])), (p_room, .inl (cI, 8, .inl d_room_2)), (p_st, .inl (cI, 104, .inl d_st))] H → va_D A [(p_this, .inr (6, [.int d_dishes, .int d_speakers, .ref p_speaker, .int d_noises, .ref p_noise, .int d_askers, .ref p_asker, .ref p_st, .ref p_images, .ref p_isKept, .long d_trace, .ref p_text, .int d_texted, .int d_cursor, .int d_start, .int d_token, .int d_number, .long d_word, .int d_isWrong, .int d_saidDishes, .ref p_saidMount, .int d_saidSpeakers, .ref p_saidSpeaker, .int d_saidNoises, .ref p_saidNoise, .int d_saidAskers, .ref p_saidAsker, .ref p_room, .int d_couldBe, .int d_couldHere])), (p_room, .inl (cI, 8, .inl d_room_2)), (p_st, .inl (cI, 104, .inl d_st))] → va_S A s.heap H locs → ∀ ls : Array Slot, lv_has ls 5 [(0, .ref p_this), (1, .int x1), (2, .int x2), (3, .int x3_2)] → f_X6_findRoom_L2 (f_X6_findRoom_X21 x1 x2 d_dishes d_st) x1 x2 d_dishes d_st n9_2 x3_2 d_room_2 = some out → W p l e ({ frames := 1, cells := 0, slots := 0, locals := 22 } : Room) s m ([.ref p_this, .int x1, .int x2] : List Value).toArray below meth c H locs 0 0 Q (F0 m 2 ls []) := by
    intro n9_2
    induction n9_2 with
    | zero =>
      intro x3_2 d_room_2 H locs hP hD hS ls hl hrun
      rw [f_X6_findRoom_L2] at hrun
      cases hrun
    | succ n9_2 ih2 =>
      intro x3_2 d_room_2 H locs hP hD hS ls hl hrun
      rw [f_X6_findRoom_L2] at hrun
      refine lv_iload_n hx hb dX6_findRoom_2 rfl (lv_at hl 3 rfl) ?_
      refine lv_bipush (v := 8) hx hb dX6_findRoom_3 (by decide) ?_
      refine lv_icmp_ge (tgt := 21) hx hb dX6_findRoom_5 (by decide) (fun c_5 => ?_) (fun c_5 => ?_)
      · rw [if_pos c_5] at hrun
        exact X21 d_room_2 H locs hP hD hS ls (lv_sub hl [0, 1, 2] rfl) hrun
      · rw [if_neg c_5] at hrun
        refine lv_aload_n hx hb dX6_findRoom_8 rfl (lv_at hl 0 rfl) ?_
        refine va_get (D := (dC, dI)) (ci := 6) (v := .ref p_room) (C := RX6) (T := TX6) (N := 30) hx hb hts iwX6 hown hK hP 0 rfl rfl 27 (by decide) (hts (.fieldLink RX6 44 "SkyListenersModel" "room" "[I") (by decide +kernel)) (fun _ h9 => h9) rfl dX6_findRoom_9 ?_
        refine lv_iload_n hx hb dX6_findRoom_12 rfl (lv_at hl 3 rfl) ?_
        refine lv_iconst (v := 0) hx hb dX6_findRoom_13 (by decide) ?_
        rcases Classical.em (x3_2 < 0 ∨ 8 ≤ x3_2.toNatClampNeg) with g_14 | g_14
        · rw [if_pos g_14] at hrun; cases hrun
        rw [if_neg g_14] at hrun
        refine va_iast hx hb hK hP hD hS 1 0 rfl rfl g_14 dX6_findRoom_14 (fun H locs hP hD hS => ?_)
        have hP : va_P (dC, dI) vwCl [(p_this, .inr (6, [.int d_dishes, .int d_speakers, .ref p_speaker, .int d_noises, .ref p_noise, .int d_askers, .ref p_asker, .ref p_st, .ref p_images, .ref p_isKept, .long d_trace, .ref p_text, .int d_texted, .int d_cursor, .int d_start, .int d_token, .int d_number, .long d_word, .int d_isWrong, .int d_saidDishes, .ref p_saidMount, .int d_saidSpeakers, .ref p_saidSpeaker, .int d_saidNoises, .ref p_saidNoise, .int d_saidAskers, .ref p_saidAsker, .ref p_room, .int d_couldBe, .int d_couldHere])), (p_room, .inl (cI, 8, .inl (upd d_room_2 x3_2.toNatClampNeg 0))), (p_st, .inl (cI, 104, .inl d_st))] H := hP
        have hD : va_D A [(p_this, .inr (6, [.int d_dishes, .int d_speakers, .ref p_speaker, .int d_noises, .ref p_noise, .int d_askers, .ref p_asker, .ref p_st, .ref p_images, .ref p_isKept, .long d_trace, .ref p_text, .int d_texted, .int d_cursor, .int d_start, .int d_token, .int d_number, .long d_word, .int d_isWrong, .int d_saidDishes, .ref p_saidMount, .int d_saidSpeakers, .ref p_saidSpeaker, .int d_saidNoises, .ref p_saidNoise, .int d_saidAskers, .ref p_saidAsker, .ref p_room, .int d_couldBe, .int d_couldHere])), (p_room, .inl (cI, 8, .inl (upd d_room_2 x3_2.toNatClampNeg 0))), (p_st, .inl (cI, 104, .inl d_st))] := hD
        refine lv_iinc (v := x3_2 + 1) (lv' := [(3, .int (x3_2 + 1)), (0, .ref p_this), (1, .int x1), (2, .int x2)]) hx hb dX6_findRoom_15 hl (k := 3) rfl rfl (by decide) rfl (fun ls hl => ?_)
        refine lv_goto (tgt := 2) hx hb dX6_findRoom_18 (by decide) ?_
        exact ih2 (x3_2 + 1) (upd d_room_2 x3_2.toNatClampNeg 0) H locs hP hD hS ls (lv_sub hl [1, 2, 3, 0] rfl) hrun
  exact L2 FU 0 d_room H locs hP hD hS ls (lv_sub hl [1, 2, 3, 0] rfl) hrun
-- SkyListenersModel.isRoomFor
def f_X6_isRoomFor_J83 (K4 : Int32 → Int32 → Option (Int32)) (x1 : Int32) (x3 : Int32) (d_askers : Int32) (d_asker : Nat → Int32) (d_room : Nat → Int32) (t0 : Int32) : Option (Int32) := (K4 t0 (x3 + 1))
def f_X6_isRoomFor_X63 (K4 : Int32 → Int32 → Option (Int32)) (x1 : Int32) (x2 : Int32) (x3 : Int32) (d_askers : Int32) (d_asker : Nat → Int32) (d_room : Nat → Int32) (x4 : Int32) : Option (Int32) := (if x2 = 0 then (f_X6_isRoomFor_J83 K4 x1 x3 d_askers d_asker d_room 0) else (if x3 < 0 ∨ 8 ≤ x3.toNatClampNeg then none else (if (d_room x3.toNatClampNeg) < x4 then (f_X6_isRoomFor_J83 K4 x1 x3 d_askers d_asker d_room 0) else (f_X6_isRoomFor_J83 K4 x1 x3 d_askers d_asker d_room 1))))
def f_X6_isRoomFor_J54 (K16 : Int32 → Int32 → Option (Int32)) (x1 : Int32) (x2 : Int32) (x3 : Int32) (x5 : Int32) (t0 : Int32) (d_askers : Int32) (d_asker : Nat → Int32) (d_room : Nat → Int32) (t1 : Int32) : Option (Int32) := (K16 (t0 + t1) (x5 + 1))
def f_X6_isRoomFor_L16 (K63 : Int32 → Option (Int32)) (x1 : Int32) (x2 : Int32) (x3 : Int32) (d_askers : Int32) (d_asker : Nat → Int32) (d_room : Nat → Int32) : Nat → Int32 → Int32 → Option (Int32)
  | 0, _, _ => none
  | n9 + 1, x4, x5 => (if d_askers ≤ x5 then (K63 x4) else (if (f_X6_has x1 x5) = 0 then (f_X6_isRoomFor_J54 (f_X6_isRoomFor_L16 K63 x1 x2 x3 d_askers d_asker d_room n9) x1 x2 x3 x5 x4 d_askers d_asker d_room 0) else (if (2 * x5) < 0 ∨ 10 ≤ (2 * x5).toNatClampNeg then none else (if (d_asker (2 * x5).toNatClampNeg) = x3 then (f_X6_isRoomFor_J54 (f_X6_isRoomFor_L16 K63 x1 x2 x3 d_askers d_asker d_room n9) x1 x2 x3 x5 x4 d_askers d_asker d_room 1) else (f_X6_isRoomFor_J54 (f_X6_isRoomFor_L16 K63 x1 x2 x3 d_askers d_asker d_room n9) x1 x2 x3 x5 x4 d_askers d_asker d_room 0)))))
def f_X6_isRoomFor_L4 (x1 : Int32) (d_askers : Int32) (d_asker : Nat → Int32) (d_room : Nat → Int32) : Nat → Int32 → Int32 → Option (Int32)
  | 0, _, _ => none
  | n9 + 1, x2, x3 => (if 8 ≤ x3 then (if x2 = 0 ∨ x2 = 1 then (some x2) else none) else (f_X6_isRoomFor_L16 (f_X6_isRoomFor_X63 (f_X6_isRoomFor_L4  x1 d_askers d_asker d_room n9) x1 x2 x3 d_askers d_asker d_room) x1 x2 x3 d_askers d_asker d_room FU 0 0))
def f_X6_isRoomFor (d_askers : Int32) (d_asker : Nat → Int32) (d_room : Nat → Int32) (x1 : Int32) : Option (Int32) := (f_X6_isRoomFor_L4 x1 d_askers d_asker d_room FU 1 0)
set_option maxHeartbeats 4000000 in
set_option maxRecDepth 100000 in
theorem c_X6_isRoomFor (l : Launch) (dC : Nat → ClassId) (dI : Nat → Nat → Nat) (cI cZ : ClassId) (sz : Nat) (p_asker p_images p_isKept p_noise p_room p_saidAsker p_saidMount p_saidNoise p_saidSpeaker p_speaker p_st p_text p_this : Nat) (d_dishes : Int32) (d_speakers : Int32) (d_noises : Int32) (d_askers : Int32) (d_trace : Int64) (d_texted : Int32) (d_cursor : Int32) (d_start : Int32) (d_token : Int32) (d_number : Int32) (d_word : Int64) (d_isWrong : Int32) (d_saidDishes : Int32) (d_saidSpeakers : Int32) (d_saidNoises : Int32) (d_saidAskers : Int32) (d_couldBe : Int32) (d_couldHere : Int32) (d_asker : Nat → Int32) (d_room : Nat → Int32) (x1 : Int32) (out : Int32) (hrun : f_X6_isRoomFor d_askers d_asker d_room x1 = some out) : Met l yX6_isRoomFor wsX6_isRoomFor ({ frames := 1, cells := 0, slots := 0, locals := 21 } : Room) (va_Pc [.ref p_this, .int x1] (PC dC dI cI cZ sz ([(p_this, .inr (6, [.int d_dishes, .int d_speakers, .ref p_speaker, .int d_noises, .ref p_noise, .int d_askers, .ref p_asker, .ref p_st, .ref p_images, .ref p_isKept, .long d_trace, .ref p_text, .int d_texted, .int d_cursor, .int d_start, .int d_token, .int d_number, .long d_word, .int d_isWrong, .int d_saidDishes, .ref p_saidMount, .int d_saidSpeakers, .ref p_saidSpeaker, .int d_saidNoises, .ref p_saidNoise, .int d_saidAskers, .ref p_saidAsker, .ref p_room, .int d_couldBe, .int d_couldHere])), (p_asker, .inl (cI, 10, .inl d_asker)), (p_room, .inl (cI, 8, .inl d_room))] : va_W))) (va_Qi (fun r (_ : Unit) => r = out) (fun _ t => va_P (dC, dI) vwCl [(p_this, .inr (6, [.int d_dishes, .int d_speakers, .ref p_speaker, .int d_noises, .ref p_noise, .int d_askers, .ref p_asker, .ref p_st, .ref p_images, .ref p_isKept, .long d_trace, .ref p_text, .int d_texted, .int d_cursor, .int d_start, .int d_token, .int d_number, .long d_word, .int d_isWrong, .int d_saidDishes, .ref p_saidMount, .int d_saidSpeakers, .ref p_saidSpeaker, .int d_saidNoises, .ref p_saidNoise, .int d_saidAskers, .ref p_saidAsker, .ref p_room, .int d_couldBe, .int d_couldHere])), (p_asker, .inl (cI, 10, .inl d_asker)), (p_room, .inl (cI, 8, .inl d_room))] t.heap ∧ va_D (va_A ([(p_this, .inr (6, [.int d_dishes, .int d_speakers, .ref p_speaker, .int d_noises, .ref p_noise, .int d_askers, .ref p_asker, .ref p_st, .ref p_images, .ref p_isKept, .long d_trace, .ref p_text, .int d_texted, .int d_cursor, .int d_start, .int d_token, .int d_number, .long d_word, .int d_isWrong, .int d_saidDishes, .ref p_saidMount, .int d_saidSpeakers, .ref p_saidSpeaker, .int d_saidNoises, .ref p_saidNoise, .int d_saidAskers, .ref p_saidAsker, .ref p_room, .int d_couldBe, .int d_couldHere])), (p_asker, .inl (cI, 10, .inl d_asker)), (p_room, .inl (cI, 8, .inl d_room))] : va_W) sz) [(p_this, .inr (6, [.int d_dishes, .int d_speakers, .ref p_speaker, .int d_noises, .ref p_noise, .int d_askers, .ref p_asker, .ref p_st, .ref p_images, .ref p_isKept, .long d_trace, .ref p_text, .int d_texted, .int d_cursor, .int d_start, .int d_token, .int d_number, .long d_word, .int d_isWrong, .int d_saidDishes, .ref p_saidMount, .int d_saidSpeakers, .ref p_saidSpeaker, .int d_saidNoises, .ref p_saidNoise, .int d_saidAskers, .ref p_saidAsker, .ref p_room, .int d_couldBe, .int d_couldHere])), (p_asker, .inl (cI, 10, .inl d_asker)), (p_room, .inl (cI, 8, .inl d_room))]) (va_A ([(p_this, .inr (6, [.int d_dishes, .int d_speakers, .ref p_speaker, .int d_noises, .ref p_noise, .int d_askers, .ref p_asker, .ref p_st, .ref p_images, .ref p_isKept, .long d_trace, .ref p_text, .int d_texted, .int d_cursor, .int d_start, .int d_token, .int d_number, .long d_word, .int d_isWrong, .int d_saidDishes, .ref p_saidMount, .int d_saidSpeakers, .ref p_saidSpeaker, .int d_saidNoises, .ref p_saidNoise, .int d_saidAskers, .ref p_saidAsker, .ref p_room, .int d_couldBe, .int d_couldHere])), (p_asker, .inl (cI, 10, .inl d_asker)), (p_room, .inl (cI, 8, .inl d_room))] : va_W) sz)) 0 0 (va_A ([(p_this, .inr (6, [.int d_dishes, .int d_speakers, .ref p_speaker, .int d_noises, .ref p_noise, .int d_askers, .ref p_asker, .ref p_st, .ref p_images, .ref p_isKept, .long d_trace, .ref p_text, .int d_texted, .int d_cursor, .int d_start, .int d_token, .int d_number, .long d_word, .int d_isWrong, .int d_saidDishes, .ref p_saidMount, .int d_saidSpeakers, .ref p_saidSpeaker, .int d_saidNoises, .ref p_saidNoise, .int d_saidAskers, .ref p_saidAsker, .ref p_room, .int d_couldBe, .int d_couldHere])), (p_asker, .inl (cI, 10, .inl d_asker)), (p_room, .inl (cI, 8, .inl d_room))] : va_W) sz) := by
  refine Met.ofW (cc := cX6_isRoomFor) (maxL := 6) (ret := (some .boolean)) (by decide) rfl ?_
  intro p e s m args below meth c s₁ B hml hv
  obtain ⟨rfl, hsz, hP, hK, hD0, hN⟩ := hv
  have hx := B.exec
  have hb := B.bytes
  have hr := B.returns
  have hts := atoms_spec (ws := wsX6_isRoomFor) B.pre
  have hown : s.vm.findClass RX6 = some m.cls := findClass_of_methodNamed B.named
  have hlocks := B.notSynchronized
  subst hsz
  have hD := hD0.self (sz := s.heap.size)
  generalize hAe : va_A ([(p_this, .inr (6, [.int d_dishes, .int d_speakers, .ref p_speaker, .int d_noises, .ref p_noise, .int d_askers, .ref p_asker, .ref p_st, .ref p_images, .ref p_isKept, .long d_trace, .ref p_text, .int d_texted, .int d_cursor, .int d_start, .int d_token, .int d_number, .long d_word, .int d_isWrong, .int d_saidDishes, .ref p_saidMount, .int d_saidSpeakers, .ref p_saidSpeaker, .int d_saidNoises, .ref p_saidNoise, .int d_saidAskers, .ref p_saidAsker, .ref p_room, .int d_couldBe, .int d_couldHere])), (p_asker, .inl (cI, 10, .inl d_asker)), (p_room, .inl (cI, 8, .inl d_room))] : va_W) s.heap.size = A at hD ⊢
  have hA : ∀ q : Nat, s.heap.size ≤ q → A q := fun q h => by rw [← hAe]; exact Or.inr h
  have hS : va_S A s.heap s.heap [] := va_S.rf
  refine W_abs (fun Q hQ => ?_)
  have hl := lv_entry ([.ref p_this, .int x1]) (n := 6) (Nat.le_of_ble_eq_true rfl)
  rw [lg_entry_eq]
  generalize (lg_sl ([.ref p_this, .int x1]) ++ List.replicate (6 - (lg_sl ([.ref p_this, .int x1])).length) Slot.unset).toArray = ls at hl ⊢
  have hl : lv_has ls 6 [(0, .ref p_this), (1, .int x1)] := hl
  rw [f_X6_isRoomFor] at hrun
  refine W_start (ws := [(p_this, .inr (6, [.int d_dishes, .int d_speakers, .ref p_speaker, .int d_noises, .ref p_noise, .int d_askers, .ref p_asker, .ref p_st, .ref p_images, .ref p_isKept, .long d_trace, .ref p_text, .int d_texted, .int d_cursor, .int d_start, .int d_token, .int d_number, .long d_word, .int d_isWrong, .int d_saidDishes, .ref p_saidMount, .int d_saidSpeakers, .ref p_saidSpeaker, .int d_saidNoises, .ref p_saidNoise, .int d_saidAskers, .ref p_saidAsker, .ref p_room, .int d_couldBe, .int d_couldHere])), (p_asker, .inl (cI, 10, .inl d_asker)), (p_room, .inl (cI, 8, .inl d_room))]) hP hS (fun H locs hP hS => ?_)
  have iwX6 : ∀ w ∈ wsX60, w ∈ wsX6_isRoomFor := by decide +kernel
  refine lv_iconst (v := 1) hx hb dX6_isRoomFor_0 (by decide) ?_
  refine lv_istore_n (lv' := [(2, .int 1), (0, .ref p_this), (1, .int x1)]) hx hb dX6_isRoomFor_1 rfl hl (by decide) rfl (fun ls hl => ?_)
  refine lv_iconst (v := 0) hx hb dX6_isRoomFor_2 (by decide) ?_
  refine lv_istore_n (lv' := [(3, .int 0), (2, .int 1), (0, .ref p_this), (1, .int x1)]) hx hb dX6_isRoomFor_3 rfl hl (by decide) rfl (fun ls hl => ?_)
  have L4 : ∀ (n9_4 : Nat) (x2_4 : Int32) (x3_4 : Int32) (H : Heap) (locs : List Loc), va_P (dC, dI) vwCl [(p_this, .inr (6, [.int d_dishes, .int d_speakers, .ref p_speaker, .int d_noises, .ref p_noise, .int d_askers, .ref p_asker, .ref p_st, .ref p_images, .ref p_isKept, .long d_trace, .ref p_text, .int d_texted, .int d_cursor, .int d_start, .int d_token, .int d_number, .long d_word, .int d_isWrong, .int d_saidDishes, .ref p_saidMount, .int d_saidSpeakers, .ref p_saidSpeaker, .int d_saidNoises, .ref p_saidNoise, .int d_saidAskers, .ref p_saidAsker, .ref p_room, .int d_couldBe, .int d_couldHere])), (p_asker, .inl (cI, 10, .inl d_asker)), (p_room, .inl (cI, 8, .inl d_room))] H → va_D A [(p_this, .inr (6, [.int d_dishes, .int d_speakers, .ref p_speaker, .int d_noises, .ref p_noise, .int d_askers, .ref p_asker, .ref p_st, .ref p_images, .ref p_isKept, .long d_trace, .ref p_text, .int d_texted, .int d_cursor, .int d_start, .int d_token, .int d_number, .long d_word, .int d_isWrong, .int d_saidDishes, .ref p_saidMount, .int d_saidSpeakers, .ref p_saidSpeaker, .int d_saidNoises, .ref p_saidNoise, .int d_saidAskers, .ref p_saidAsker, .ref p_room, .int d_couldBe, .int d_couldHere])), (p_asker, .inl (cI, 10, .inl d_asker)), (p_room, .inl (cI, 8, .inl d_room))] → va_S A s.heap H locs → ∀ ls : Array Slot, lv_has ls 6 [(0, .ref p_this), (1, .int x1), (2, .int x2_4), (3, .int x3_4)] → f_X6_isRoomFor_L4 x1 d_askers d_asker d_room n9_4 x2_4 x3_4 = some out → W p l e ({ frames := 1, cells := 0, slots := 0, locals := 21 } : Room) s m ([.ref p_this, .int x1] : List Value).toArray below meth c H locs 0 0 Q (F0 m 4 ls []) := by
    intro n9_4
    induction n9_4 with
    | zero =>
      intro x2_4 x3_4 H locs hP hD hS ls hl hrun
      rw [f_X6_isRoomFor_L4] at hrun
      cases hrun
    | succ n9_4 ih4 =>
      intro x2_4 x3_4 H locs hP hD hS ls hl hrun
      rw [f_X6_isRoomFor_L4] at hrun
      refine lv_iload_n hx hb dX6_isRoomFor_4 rfl (lv_at hl 3 rfl) ?_
      refine lv_bipush (v := 8) hx hb dX6_isRoomFor_5 (by decide) ?_
      refine lv_icmp_ge (tgt := 90) hx hb dX6_isRoomFor_7 (by decide) (fun c_7 => ?_) (fun c_7 => ?_)
      · rw [if_pos c_7] at hrun
        refine lv_iload_n hx hb dX6_isRoomFor_90 rfl (lv_at hl 2 rfl) ?_
        rcases Classical.em (¬ (x2_4 = 0 ∨ x2_4 = 1)) with g_91 | g_91
        · rw [if_neg g_91] at hrun; cases hrun
        have g_91 := Classical.not_not.mp g_91
        rw [if_pos g_91] at hrun
        have hrun := Option.some.inj hrun
        subst hrun
        rw [hQ]
        exact W.zret (v := x2_4) (ty := .boolean) hx hb hr (nar_b g_91) (fun t ht hW => ⟨⟨x2_4, (), rfl, rfl, by rw [ht]; exact hP, hD⟩, hS.F ht⟩) hS.2.2 dX6_isRoomFor_91
      · rw [if_neg c_7] at hrun
        refine lv_iconst (v := 0) hx hb dX6_isRoomFor_10 (by decide) ?_
        refine lv_istore (lv' := [(4, .int 0), (0, .ref p_this), (1, .int x1), (2, .int x2_4), (3, .int x3_4)]) hx hb dX6_isRoomFor_11 hl (by decide) rfl (fun ls hl => ?_)
        refine lv_iconst (v := 0) hx hb dX6_isRoomFor_13 (by decide) ?_
        refine lv_istore (lv' := [(5, .int 0), (4, .int 0), (0, .ref p_this), (1, .int x1), (2, .int x2_4), (3, .int x3_4)]) hx hb dX6_isRoomFor_14 hl (by decide) rfl (fun ls hl => ?_)
        have X63 : ∀ (x4_63 : Int32) (H : Heap) (locs : List Loc), va_P (dC, dI) vwCl [(p_this, .inr (6, [.int d_dishes, .int d_speakers, .ref p_speaker, .int d_noises, .ref p_noise, .int d_askers, .ref p_asker, .ref p_st, .ref p_images, .ref p_isKept, .long d_trace, .ref p_text, .int d_texted, .int d_cursor, .int d_start, .int d_token, .int d_number, .long d_word, .int d_isWrong, .int d_saidDishes, .ref p_saidMount, .int d_saidSpeakers, .ref p_saidSpeaker, .int d_saidNoises, .ref p_saidNoise, .int d_saidAskers, .ref p_saidAsker, .ref p_room, .int d_couldBe, .int d_couldHere])), (p_asker, .inl (cI, 10, .inl d_asker)), (p_room, .inl (cI, 8, .inl d_room))] H → va_D A [(p_this, .inr (6, [.int d_dishes, .int d_speakers, .ref p_speaker, .int d_noises, .ref p_noise, .int d_askers, .ref p_asker, .ref p_st, .ref p_images, .ref p_isKept, .long d_trace, .ref p_text, .int d_texted, .int d_cursor, .int d_start, .int d_token, .int d_number, .long d_word, .int d_isWrong, .int d_saidDishes, .ref p_saidMount, .int d_saidSpeakers, .ref p_saidSpeaker, .int d_saidNoises, .ref p_saidNoise, .int d_saidAskers, .ref p_saidAsker, .ref p_room, .int d_couldBe, .int d_couldHere])), (p_asker, .inl (cI, 10, .inl d_asker)), (p_room, .inl (cI, 8, .inl d_room))] → va_S A s.heap H locs → ∀ ls : Array Slot, lv_has ls 6 [(0, .ref p_this), (1, .int x1), (2, .int x2_4), (3, .int x3_4), (4, .int x4_63)] → f_X6_isRoomFor_X63 (f_X6_isRoomFor_L4 x1 d_askers d_asker d_room n9_4) x1 x2_4 x3_4 d_askers d_asker d_room x4_63 = some out → W p l e ({ frames := 1, cells := 0, slots := 0, locals := 21 } : Room) s m ([.ref p_this, .int x1] : List Value).toArray below meth c H locs 0 0 Q (F0 m 63 ls []) := by
          intro x4_63 H locs hP hD hS ls hl hrun
          rw [f_X6_isRoomFor_X63] at hrun
          refine lv_iload_n hx hb dX6_isRoomFor_63 rfl (lv_at hl 2 rfl) ?_
          have J83 : ∀ (t0_83 : Int32) (H : Heap) (locs : List Loc), va_P (dC, dI) vwCl [(p_this, .inr (6, [.int d_dishes, .int d_speakers, .ref p_speaker, .int d_noises, .ref p_noise, .int d_askers, .ref p_asker, .ref p_st, .ref p_images, .ref p_isKept, .long d_trace, .ref p_text, .int d_texted, .int d_cursor, .int d_start, .int d_token, .int d_number, .long d_word, .int d_isWrong, .int d_saidDishes, .ref p_saidMount, .int d_saidSpeakers, .ref p_saidSpeaker, .int d_saidNoises, .ref p_saidNoise, .int d_saidAskers, .ref p_saidAsker, .ref p_room, .int d_couldBe, .int d_couldHere])), (p_asker, .inl (cI, 10, .inl d_asker)), (p_room, .inl (cI, 8, .inl d_room))] H → va_D A [(p_this, .inr (6, [.int d_dishes, .int d_speakers, .ref p_speaker, .int d_noises, .ref p_noise, .int d_askers, .ref p_asker, .ref p_st, .ref p_images, .ref p_isKept, .long d_trace, .ref p_text, .int d_texted, .int d_cursor, .int d_start, .int d_token, .int d_number, .long d_word, .int d_isWrong, .int d_saidDishes, .ref p_saidMount, .int d_saidSpeakers, .ref p_saidSpeaker, .int d_saidNoises, .ref p_saidNoise, .int d_saidAskers, .ref p_saidAsker, .ref p_room, .int d_couldBe, .int d_couldHere])), (p_asker, .inl (cI, 10, .inl d_asker)), (p_room, .inl (cI, 8, .inl d_room))] → va_S A s.heap H locs → ∀ ls : Array Slot, lv_has ls 6 [(0, .ref p_this), (1, .int x1), (3, .int x3_4)] → f_X6_isRoomFor_J83 (f_X6_isRoomFor_L4 x1 d_askers d_asker d_room n9_4) x1 x3_4 d_askers d_asker d_room t0_83 = some out → W p l e ({ frames := 1, cells := 0, slots := 0, locals := 21 } : Room) s m ([.ref p_this, .int x1] : List Value).toArray below meth c H locs 0 0 Q (F0 m 83 ls [.int t0_83]) := by
            intro t0_83 H locs hP hD hS ls hl hrun
            rw [f_X6_isRoomFor_J83] at hrun
            refine lv_istore_n (lv' := [(2, .int t0_83), (0, .ref p_this), (1, .int x1), (3, .int x3_4)]) hx hb dX6_isRoomFor_83 rfl hl (by decide) rfl (fun ls hl => ?_)
            refine lv_iinc (v := x3_4 + 1) (lv' := [(3, .int (x3_4 + 1)), (2, .int t0_83), (0, .ref p_this), (1, .int x1)]) hx hb dX6_isRoomFor_84 hl (k := 3) rfl rfl (by decide) rfl (fun ls hl => ?_)
            refine lv_goto (tgt := 4) hx hb dX6_isRoomFor_87 (by decide) ?_
            exact ih4 t0_83 (x3_4 + 1) H locs hP hD hS ls (lv_sub hl [2, 3, 1, 0] rfl) hrun
          refine lv_if_eq (tgt := 82) hx hb dX6_isRoomFor_64 (by decide) (fun c_64 => ?_) (fun c_64 => ?_)
          · rw [if_pos c_64] at hrun
            refine lv_iconst (v := 0) hx hb dX6_isRoomFor_82 (by decide) ?_
            exact J83 0 H locs hP hD hS ls (lv_sub hl [0, 1, 3] rfl) hrun
          · rw [if_neg c_64] at hrun
            refine lv_iload hx hb dX6_isRoomFor_67 (lv_at hl 4 rfl) ?_
            refine lv_aload_n hx hb dX6_isRoomFor_69 rfl (lv_at hl 0 rfl) ?_
            refine va_get (D := (dC, dI)) (ci := 6) (v := .ref p_room) (C := RX6) (T := TX6) (N := 30) hx hb hts iwX6 hown hK hP 0 rfl rfl 27 (by decide) (hts (.fieldLink RX6 44 "SkyListenersModel" "room" "[I") (by decide +kernel)) (fun _ h9 => h9) rfl dX6_isRoomFor_70 ?_
            refine lv_iload_n hx hb dX6_isRoomFor_73 rfl (lv_at hl 3 rfl) ?_
            rcases Classical.em (x3_4 < 0 ∨ 8 ≤ x3_4.toNatClampNeg) with g_74 | g_74
            · rw [if_pos g_74] at hrun; cases hrun
            rw [if_neg g_74] at hrun
            refine va_iald hx hb hK hP 2 0 rfl rfl g_74 dX6_isRoomFor_74 ?_
            refine lv_icmp_gt (tgt := 82) hx hb dX6_isRoomFor_75 (by decide) (fun c_75 => ?_) (fun c_75 => ?_)
            · rw [if_pos c_75] at hrun
              refine lv_iconst (v := 0) hx hb dX6_isRoomFor_82 (by decide) ?_
              exact J83 0 H locs hP hD hS ls (lv_sub hl [0, 1, 3] rfl) hrun
            · rw [if_neg c_75] at hrun
              refine lv_iconst (v := 1) hx hb dX6_isRoomFor_78 (by decide) ?_
              refine lv_goto (tgt := 83) hx hb dX6_isRoomFor_79 (by decide) ?_
              exact J83 1 H locs hP hD hS ls (lv_sub hl [0, 1, 3] rfl) hrun
        have L16 : ∀ (n9_16 : Nat) (x4_16 : Int32) (x5_16 : Int32) (H : Heap) (locs : List Loc), va_P (dC, dI) vwCl [(p_this, .inr (6, [.int d_dishes, .int d_speakers, .ref p_speaker, .int d_noises, .ref p_noise, .int d_askers, .ref p_asker, .ref p_st, .ref p_images, .ref p_isKept, .long d_trace, .ref p_text, .int d_texted, .int d_cursor, .int d_start, .int d_token, .int d_number, .long d_word, .int d_isWrong, .int d_saidDishes, .ref p_saidMount, .int d_saidSpeakers, .ref p_saidSpeaker, .int d_saidNoises, .ref p_saidNoise, .int d_saidAskers, .ref p_saidAsker, .ref p_room, .int d_couldBe, .int d_couldHere])), (p_asker, .inl (cI, 10, .inl d_asker)), (p_room, .inl (cI, 8, .inl d_room))] H → va_D A [(p_this, .inr (6, [.int d_dishes, .int d_speakers, .ref p_speaker, .int d_noises, .ref p_noise, .int d_askers, .ref p_asker, .ref p_st, .ref p_images, .ref p_isKept, .long d_trace, .ref p_text, .int d_texted, .int d_cursor, .int d_start, .int d_token, .int d_number, .long d_word, .int d_isWrong, .int d_saidDishes, .ref p_saidMount, .int d_saidSpeakers, .ref p_saidSpeaker, .int d_saidNoises, .ref p_saidNoise, .int d_saidAskers, .ref p_saidAsker, .ref p_room, .int d_couldBe, .int d_couldHere])), (p_asker, .inl (cI, 10, .inl d_asker)), (p_room, .inl (cI, 8, .inl d_room))] → va_S A s.heap H locs → ∀ ls : Array Slot, lv_has ls 6 [(0, .ref p_this), (1, .int x1), (2, .int x2_4), (3, .int x3_4), (4, .int x4_16), (5, .int x5_16)] → f_X6_isRoomFor_L16 (f_X6_isRoomFor_X63 (f_X6_isRoomFor_L4 x1 d_askers d_asker d_room n9_4) x1 x2_4 x3_4 d_askers d_asker d_room) x1 x2_4 x3_4 d_askers d_asker d_room n9_16 x4_16 x5_16 = some out → W p l e ({ frames := 1, cells := 0, slots := 0, locals := 21 } : Room) s m ([.ref p_this, .int x1] : List Value).toArray below meth c H locs 0 0 Q (F0 m 16 ls []) := by
          intro n9_16
          induction n9_16 with
          | zero =>
            intro x4_16 x5_16 H locs hP hD hS ls hl hrun
            rw [f_X6_isRoomFor_L16] at hrun
            cases hrun
          | succ n9_16 ih16 =>
            intro x4_16 x5_16 H locs hP hD hS ls hl hrun
            rw [f_X6_isRoomFor_L16] at hrun
            refine lv_iload hx hb dX6_isRoomFor_16 (lv_at hl 5 rfl) ?_
            refine lv_aload_n hx hb dX6_isRoomFor_18 rfl (lv_at hl 0 rfl) ?_
            refine va_get (D := (dC, dI)) (ci := 6) (v := .int d_askers) (C := RX6) (T := TX6) (N := 30) hx hb hts iwX6 hown hK hP 0 rfl rfl 5 (by decide) (hts (.fieldLink RX6 55 "SkyListenersModel" "askers" "I") (by decide +kernel)) (fun _ h9 => h9) rfl dX6_isRoomFor_19 ?_
            refine lv_icmp_ge (tgt := 63) hx hb dX6_isRoomFor_22 (by decide) (fun c_22 => ?_) (fun c_22 => ?_)
            · rw [if_pos c_22] at hrun
              exact X63 x4_16 H locs hP hD hS ls (lv_sub hl [0, 1, 2, 3, 4] rfl) hrun
            · rw [if_neg c_22] at hrun
              refine lv_iload hx hb dX6_isRoomFor_25 (lv_at hl 4 rfl) ?_
              refine lv_iload_n hx hb dX6_isRoomFor_27 rfl (lv_at hl 1 rfl) ?_
              refine lv_iload hx hb dX6_isRoomFor_28 (lv_at hl 5 rfl) ?_
              have hPc : va_P (dC, dI) vwCl [] H := hP.sub [] rfl
              have hDc : va_D A [] := hD.sub [] (by decide) rfl
              have hFc := va_free (wc := []) hD hS hA [] rfl
              refine va_calli (va_runS (As := [.int x1, .int x5_16]) (rest := [.int x4_16]) ⟨hx, hb, hml, hown, hts⟩ (c_X6_has l dC dI cI cZ H.size x1 x5_16 (f_X6_has x1 x5_16) rfl) (va_cwS 2 hts gX6_isRoomFor_X6_has rfl rfl rfl (by decide +kernel) ⟨Nat.le_of_ble_eq_true rfl, Nat.le_of_ble_eq_true rfl⟩) ⟨fun a U g mk q => ⟨q.1, PC.mv q.2⟩, fun U hU hW => ⟨rfl, PC.of hU hW hPc hK hDc hN⟩⟩ rfl rfl hl.1 rfl (lv_room (Nat.le_of_ble_eq_true rfl)) dX6_isRoomFor_30 ⟨Nat.zero_le _, Nat.zero_le _⟩) hS (fun q _ h => hFc q h) hFc (fun r_30 u t H1 locs ht hvm hw hB hz1 hk1 hS => ?_)
              obtain ⟨hP1, hD1⟩ := hB
              try dsimp only at hw
              rw [hw]
              rw [ht] at hP1
              have hP : va_P (dC, dI) vwCl [(p_this, .inr (6, [.int d_dishes, .int d_speakers, .ref p_speaker, .int d_noises, .ref p_noise, .int d_askers, .ref p_asker, .ref p_st, .ref p_images, .ref p_isKept, .long d_trace, .ref p_text, .int d_texted, .int d_cursor, .int d_start, .int d_token, .int d_number, .long d_word, .int d_isWrong, .int d_saidDishes, .ref p_saidMount, .int d_saidSpeakers, .ref p_saidSpeaker, .int d_saidNoises, .ref p_saidNoise, .int d_saidAskers, .ref p_saidAsker, .ref p_room, .int d_couldBe, .int d_couldHere])), (p_asker, .inl (cI, 10, .inl d_asker)), (p_room, .inl (cI, 8, .inl d_room))] H1 := join_ro hP hD [] rfl hk1 hP1
              clear hPc hDc hFc hk1 hz1 hP1 hD1 ht hvm
              generalize H1 = H at hP hS ⊢
              have J54 : ∀ (t1_54 : Int32) (H : Heap) (locs : List Loc), va_P (dC, dI) vwCl [(p_this, .inr (6, [.int d_dishes, .int d_speakers, .ref p_speaker, .int d_noises, .ref p_noise, .int d_askers, .ref p_asker, .ref p_st, .ref p_images, .ref p_isKept, .long d_trace, .ref p_text, .int d_texted, .int d_cursor, .int d_start, .int d_token, .int d_number, .long d_word, .int d_isWrong, .int d_saidDishes, .ref p_saidMount, .int d_saidSpeakers, .ref p_saidSpeaker, .int d_saidNoises, .ref p_saidNoise, .int d_saidAskers, .ref p_saidAsker, .ref p_room, .int d_couldBe, .int d_couldHere])), (p_asker, .inl (cI, 10, .inl d_asker)), (p_room, .inl (cI, 8, .inl d_room))] H → va_D A [(p_this, .inr (6, [.int d_dishes, .int d_speakers, .ref p_speaker, .int d_noises, .ref p_noise, .int d_askers, .ref p_asker, .ref p_st, .ref p_images, .ref p_isKept, .long d_trace, .ref p_text, .int d_texted, .int d_cursor, .int d_start, .int d_token, .int d_number, .long d_word, .int d_isWrong, .int d_saidDishes, .ref p_saidMount, .int d_saidSpeakers, .ref p_saidSpeaker, .int d_saidNoises, .ref p_saidNoise, .int d_saidAskers, .ref p_saidAsker, .ref p_room, .int d_couldBe, .int d_couldHere])), (p_asker, .inl (cI, 10, .inl d_asker)), (p_room, .inl (cI, 8, .inl d_room))] → va_S A s.heap H locs → ∀ ls : Array Slot, lv_has ls 6 [(0, .ref p_this), (1, .int x1), (2, .int x2_4), (3, .int x3_4), (5, .int x5_16)] → f_X6_isRoomFor_J54 (f_X6_isRoomFor_L16 (f_X6_isRoomFor_X63 (f_X6_isRoomFor_L4 x1 d_askers d_asker d_room n9_4) x1 x2_4 x3_4 d_askers d_asker d_room) x1 x2_4 x3_4 d_askers d_asker d_room n9_16) x1 x2_4 x3_4 x5_16 x4_16 d_askers d_asker d_room t1_54 = some out → W p l e ({ frames := 1, cells := 0, slots := 0, locals := 21 } : Room) s m ([.ref p_this, .int x1] : List Value).toArray below meth c H locs 0 0 Q (F0 m 54 ls [.int t1_54, .int x4_16]) := by
                intro t1_54 H locs hP hD hS ls hl hrun
                rw [f_X6_isRoomFor_J54] at hrun
                refine lv_iadd hx hb dX6_isRoomFor_54 ?_
                refine lv_istore (lv' := [(4, .int (x4_16 + t1_54)), (0, .ref p_this), (1, .int x1), (2, .int x2_4), (3, .int x3_4), (5, .int x5_16)]) hx hb dX6_isRoomFor_55 hl (by decide) rfl (fun ls hl => ?_)
                refine lv_iinc (v := x5_16 + 1) (lv' := [(5, .int (x5_16 + 1)), (4, .int (x4_16 + t1_54)), (0, .ref p_this), (1, .int x1), (2, .int x2_4), (3, .int x3_4)]) hx hb dX6_isRoomFor_57 hl (k := 5) rfl rfl (by decide) rfl (fun ls hl => ?_)
                refine lv_goto (tgt := 16) hx hb dX6_isRoomFor_60 (by decide) ?_
                exact ih16 (x4_16 + t1_54) (x5_16 + 1) H locs hP hD hS ls (lv_sub hl [2, 3, 4, 5, 1, 0] rfl) hrun
              refine lv_if_eq (tgt := 53) hx hb dX6_isRoomFor_33 (by decide) (fun c_33 => ?_) (fun c_33 => ?_)
              · rw [if_pos c_33] at hrun
                refine lv_iconst (v := 0) hx hb dX6_isRoomFor_53 (by decide) ?_
                exact J54 0 H locs hP hD hS ls (lv_sub hl [0, 1, 2, 3, 5] rfl) hrun
              · rw [if_neg c_33] at hrun
                refine lv_aload_n hx hb dX6_isRoomFor_36 rfl (lv_at hl 0 rfl) ?_
                refine va_get (D := (dC, dI)) (ci := 6) (v := .ref p_asker) (C := RX6) (T := TX6) (N := 30) hx hb hts iwX6 hown hK hP 0 rfl rfl 6 (by decide) (hts (.fieldLink RX6 16 "SkyListenersModel" "asker" "[I") (by decide +kernel)) (fun _ h9 => h9) rfl dX6_isRoomFor_37 ?_
                refine lv_iconst (v := 2) hx hb dX6_isRoomFor_40 (by decide) ?_
                refine lv_iload hx hb dX6_isRoomFor_41 (lv_at hl 5 rfl) ?_
                refine lv_imul hx hb dX6_isRoomFor_43 ?_
                rcases Classical.em ((2 * x5_16) < 0 ∨ 10 ≤ (2 * x5_16).toNatClampNeg) with g_44 | g_44
                · rw [if_pos g_44] at hrun; cases hrun
                rw [if_neg g_44] at hrun
                refine va_iald hx hb hK hP 1 0 rfl rfl g_44 dX6_isRoomFor_44 ?_
                refine lv_iload_n hx hb dX6_isRoomFor_45 rfl (lv_at hl 3 rfl) ?_
                refine lv_icmp_ne (tgt := 53) hx hb dX6_isRoomFor_46 (by decide) (fun c_46 => ?_) (fun c_46 => ?_)
                · rw [if_neg c_46] at hrun
                  refine lv_iconst (v := 0) hx hb dX6_isRoomFor_53 (by decide) ?_
                  exact J54 0 H locs hP hD hS ls (lv_sub hl [0, 1, 2, 3, 5] rfl) hrun
                · rw [if_pos c_46] at hrun
                  refine lv_iconst (v := 1) hx hb dX6_isRoomFor_49 (by decide) ?_
                  refine lv_goto (tgt := 54) hx hb dX6_isRoomFor_50 (by decide) ?_
                  exact J54 1 H locs hP hD hS ls (lv_sub hl [0, 1, 2, 3, 5] rfl) hrun
        exact L16 FU 0 0 H locs hP hD hS ls (lv_sub hl [2, 3, 4, 5, 1, 0] rfl) hrun
  exact L4 FU 1 0 H locs hP hD hS ls (lv_sub hl [2, 3, 1, 0] rfl) hrun
-- SkyListenersModel.sureOf
def f_X6_sureOf_J35 (K4 : Int32 → Int32 → Option (Int32)) (x1 : Int32) (x3 : Int32) (t0 : Int32) (d_askers : Int32) (d_asker : Nat → Int32) (t1 : Int32) : Option (Int32) := (K4 (t0 + t1) (x3 + 1))
def f_X6_sureOf_L4 (x1 : Int32) (d_askers : Int32) (d_asker : Nat → Int32) : Nat → Int32 → Int32 → Option (Int32)
  | 0, _, _ => none
  | n9 + 1, x2, x3 => (if d_askers ≤ x3 then (some x2) else (if (f_X6_has x1 x3) = 0 then (f_X6_sureOf_J35 (f_X6_sureOf_L4  x1 d_askers d_asker n9) x1 x3 x2 d_askers d_asker 0) else (if ((2 * x3) + 1) < 0 ∨ 10 ≤ ((2 * x3) + 1).toNatClampNeg then none else (f_X6_sureOf_J35 (f_X6_sureOf_L4  x1 d_askers d_asker n9) x1 x3 x2 d_askers d_asker (d_asker ((2 * x3) + 1).toNatClampNeg)))))
def f_X6_sureOf (d_askers : Int32) (d_asker : Nat → Int32) (x1 : Int32) : Option (Int32) := (f_X6_sureOf_L4 x1 d_askers d_asker FU 0 0)
set_option maxHeartbeats 4000000 in
set_option maxRecDepth 100000 in
theorem c_X6_sureOf (l : Launch) (dC : Nat → ClassId) (dI : Nat → Nat → Nat) (cI cZ : ClassId) (sz : Nat) (p_asker p_images p_isKept p_noise p_room p_saidAsker p_saidMount p_saidNoise p_saidSpeaker p_speaker p_st p_text p_this : Nat) (d_dishes : Int32) (d_speakers : Int32) (d_noises : Int32) (d_askers : Int32) (d_trace : Int64) (d_texted : Int32) (d_cursor : Int32) (d_start : Int32) (d_token : Int32) (d_number : Int32) (d_word : Int64) (d_isWrong : Int32) (d_saidDishes : Int32) (d_saidSpeakers : Int32) (d_saidNoises : Int32) (d_saidAskers : Int32) (d_couldBe : Int32) (d_couldHere : Int32) (d_asker : Nat → Int32) (x1 : Int32) (out : Int32) (hrun : f_X6_sureOf d_askers d_asker x1 = some out) : Met l yX6_sureOf wsX6_sureOf ({ frames := 1, cells := 0, slots := 0, locals := 21 } : Room) (va_Pc [.ref p_this, .int x1] (PC dC dI cI cZ sz ([(p_this, .inr (6, [.int d_dishes, .int d_speakers, .ref p_speaker, .int d_noises, .ref p_noise, .int d_askers, .ref p_asker, .ref p_st, .ref p_images, .ref p_isKept, .long d_trace, .ref p_text, .int d_texted, .int d_cursor, .int d_start, .int d_token, .int d_number, .long d_word, .int d_isWrong, .int d_saidDishes, .ref p_saidMount, .int d_saidSpeakers, .ref p_saidSpeaker, .int d_saidNoises, .ref p_saidNoise, .int d_saidAskers, .ref p_saidAsker, .ref p_room, .int d_couldBe, .int d_couldHere])), (p_asker, .inl (cI, 10, .inl d_asker))] : va_W))) (va_Qi (fun r (_ : Unit) => r = out) (fun _ t => va_P (dC, dI) vwCl [(p_this, .inr (6, [.int d_dishes, .int d_speakers, .ref p_speaker, .int d_noises, .ref p_noise, .int d_askers, .ref p_asker, .ref p_st, .ref p_images, .ref p_isKept, .long d_trace, .ref p_text, .int d_texted, .int d_cursor, .int d_start, .int d_token, .int d_number, .long d_word, .int d_isWrong, .int d_saidDishes, .ref p_saidMount, .int d_saidSpeakers, .ref p_saidSpeaker, .int d_saidNoises, .ref p_saidNoise, .int d_saidAskers, .ref p_saidAsker, .ref p_room, .int d_couldBe, .int d_couldHere])), (p_asker, .inl (cI, 10, .inl d_asker))] t.heap ∧ va_D (va_A ([(p_this, .inr (6, [.int d_dishes, .int d_speakers, .ref p_speaker, .int d_noises, .ref p_noise, .int d_askers, .ref p_asker, .ref p_st, .ref p_images, .ref p_isKept, .long d_trace, .ref p_text, .int d_texted, .int d_cursor, .int d_start, .int d_token, .int d_number, .long d_word, .int d_isWrong, .int d_saidDishes, .ref p_saidMount, .int d_saidSpeakers, .ref p_saidSpeaker, .int d_saidNoises, .ref p_saidNoise, .int d_saidAskers, .ref p_saidAsker, .ref p_room, .int d_couldBe, .int d_couldHere])), (p_asker, .inl (cI, 10, .inl d_asker))] : va_W) sz) [(p_this, .inr (6, [.int d_dishes, .int d_speakers, .ref p_speaker, .int d_noises, .ref p_noise, .int d_askers, .ref p_asker, .ref p_st, .ref p_images, .ref p_isKept, .long d_trace, .ref p_text, .int d_texted, .int d_cursor, .int d_start, .int d_token, .int d_number, .long d_word, .int d_isWrong, .int d_saidDishes, .ref p_saidMount, .int d_saidSpeakers, .ref p_saidSpeaker, .int d_saidNoises, .ref p_saidNoise, .int d_saidAskers, .ref p_saidAsker, .ref p_room, .int d_couldBe, .int d_couldHere])), (p_asker, .inl (cI, 10, .inl d_asker))]) (va_A ([(p_this, .inr (6, [.int d_dishes, .int d_speakers, .ref p_speaker, .int d_noises, .ref p_noise, .int d_askers, .ref p_asker, .ref p_st, .ref p_images, .ref p_isKept, .long d_trace, .ref p_text, .int d_texted, .int d_cursor, .int d_start, .int d_token, .int d_number, .long d_word, .int d_isWrong, .int d_saidDishes, .ref p_saidMount, .int d_saidSpeakers, .ref p_saidSpeaker, .int d_saidNoises, .ref p_saidNoise, .int d_saidAskers, .ref p_saidAsker, .ref p_room, .int d_couldBe, .int d_couldHere])), (p_asker, .inl (cI, 10, .inl d_asker))] : va_W) sz)) 0 0 (va_A ([(p_this, .inr (6, [.int d_dishes, .int d_speakers, .ref p_speaker, .int d_noises, .ref p_noise, .int d_askers, .ref p_asker, .ref p_st, .ref p_images, .ref p_isKept, .long d_trace, .ref p_text, .int d_texted, .int d_cursor, .int d_start, .int d_token, .int d_number, .long d_word, .int d_isWrong, .int d_saidDishes, .ref p_saidMount, .int d_saidSpeakers, .ref p_saidSpeaker, .int d_saidNoises, .ref p_saidNoise, .int d_saidAskers, .ref p_saidAsker, .ref p_room, .int d_couldBe, .int d_couldHere])), (p_asker, .inl (cI, 10, .inl d_asker))] : va_W) sz) := by
  refine Met.ofW (cc := cX6_sureOf) (maxL := 4) (ret := (some .int)) (by decide) rfl ?_
  intro p e s m args below meth c s₁ B hml hv
  obtain ⟨rfl, hsz, hP, hK, hD0, hN⟩ := hv
  have hx := B.exec
  have hb := B.bytes
  have hr := B.returns
  have hts := atoms_spec (ws := wsX6_sureOf) B.pre
  have hown : s.vm.findClass RX6 = some m.cls := findClass_of_methodNamed B.named
  have hlocks := B.notSynchronized
  subst hsz
  have hD := hD0.self (sz := s.heap.size)
  generalize hAe : va_A ([(p_this, .inr (6, [.int d_dishes, .int d_speakers, .ref p_speaker, .int d_noises, .ref p_noise, .int d_askers, .ref p_asker, .ref p_st, .ref p_images, .ref p_isKept, .long d_trace, .ref p_text, .int d_texted, .int d_cursor, .int d_start, .int d_token, .int d_number, .long d_word, .int d_isWrong, .int d_saidDishes, .ref p_saidMount, .int d_saidSpeakers, .ref p_saidSpeaker, .int d_saidNoises, .ref p_saidNoise, .int d_saidAskers, .ref p_saidAsker, .ref p_room, .int d_couldBe, .int d_couldHere])), (p_asker, .inl (cI, 10, .inl d_asker))] : va_W) s.heap.size = A at hD ⊢
  have hA : ∀ q : Nat, s.heap.size ≤ q → A q := fun q h => by rw [← hAe]; exact Or.inr h
  have hS : va_S A s.heap s.heap [] := va_S.rf
  refine W_abs (fun Q hQ => ?_)
  have hl := lv_entry ([.ref p_this, .int x1]) (n := 4) (Nat.le_of_ble_eq_true rfl)
  rw [lg_entry_eq]
  generalize (lg_sl ([.ref p_this, .int x1]) ++ List.replicate (4 - (lg_sl ([.ref p_this, .int x1])).length) Slot.unset).toArray = ls at hl ⊢
  have hl : lv_has ls 4 [(0, .ref p_this), (1, .int x1)] := hl
  rw [f_X6_sureOf] at hrun
  refine W_start (ws := [(p_this, .inr (6, [.int d_dishes, .int d_speakers, .ref p_speaker, .int d_noises, .ref p_noise, .int d_askers, .ref p_asker, .ref p_st, .ref p_images, .ref p_isKept, .long d_trace, .ref p_text, .int d_texted, .int d_cursor, .int d_start, .int d_token, .int d_number, .long d_word, .int d_isWrong, .int d_saidDishes, .ref p_saidMount, .int d_saidSpeakers, .ref p_saidSpeaker, .int d_saidNoises, .ref p_saidNoise, .int d_saidAskers, .ref p_saidAsker, .ref p_room, .int d_couldBe, .int d_couldHere])), (p_asker, .inl (cI, 10, .inl d_asker))]) hP hS (fun H locs hP hS => ?_)
  have iwX6 : ∀ w ∈ wsX60, w ∈ wsX6_sureOf := by decide +kernel
  refine lv_iconst (v := 0) hx hb dX6_sureOf_0 (by decide) ?_
  refine lv_istore_n (lv' := [(2, .int 0), (0, .ref p_this), (1, .int x1)]) hx hb dX6_sureOf_1 rfl hl (by decide) rfl (fun ls hl => ?_)
  refine lv_iconst (v := 0) hx hb dX6_sureOf_2 (by decide) ?_
  refine lv_istore_n (lv' := [(3, .int 0), (2, .int 0), (0, .ref p_this), (1, .int x1)]) hx hb dX6_sureOf_3 rfl hl (by decide) rfl (fun ls hl => ?_)
  have L4 : ∀ (n9_4 : Nat) (x2_4 : Int32) (x3_4 : Int32) (H : Heap) (locs : List Loc), va_P (dC, dI) vwCl [(p_this, .inr (6, [.int d_dishes, .int d_speakers, .ref p_speaker, .int d_noises, .ref p_noise, .int d_askers, .ref p_asker, .ref p_st, .ref p_images, .ref p_isKept, .long d_trace, .ref p_text, .int d_texted, .int d_cursor, .int d_start, .int d_token, .int d_number, .long d_word, .int d_isWrong, .int d_saidDishes, .ref p_saidMount, .int d_saidSpeakers, .ref p_saidSpeaker, .int d_saidNoises, .ref p_saidNoise, .int d_saidAskers, .ref p_saidAsker, .ref p_room, .int d_couldBe, .int d_couldHere])), (p_asker, .inl (cI, 10, .inl d_asker))] H → va_D A [(p_this, .inr (6, [.int d_dishes, .int d_speakers, .ref p_speaker, .int d_noises, .ref p_noise, .int d_askers, .ref p_asker, .ref p_st, .ref p_images, .ref p_isKept, .long d_trace, .ref p_text, .int d_texted, .int d_cursor, .int d_start, .int d_token, .int d_number, .long d_word, .int d_isWrong, .int d_saidDishes, .ref p_saidMount, .int d_saidSpeakers, .ref p_saidSpeaker, .int d_saidNoises, .ref p_saidNoise, .int d_saidAskers, .ref p_saidAsker, .ref p_room, .int d_couldBe, .int d_couldHere])), (p_asker, .inl (cI, 10, .inl d_asker))] → va_S A s.heap H locs → ∀ ls : Array Slot, lv_has ls 4 [(0, .ref p_this), (1, .int x1), (2, .int x2_4), (3, .int x3_4)] → f_X6_sureOf_L4 x1 d_askers d_asker n9_4 x2_4 x3_4 = some out → W p l e ({ frames := 1, cells := 0, slots := 0, locals := 21 } : Room) s m ([.ref p_this, .int x1] : List Value).toArray below meth c H locs 0 0 Q (F0 m 4 ls []) := by
    intro n9_4
    induction n9_4 with
    | zero =>
      intro x2_4 x3_4 H locs hP hD hS ls hl hrun
      rw [f_X6_sureOf_L4] at hrun
      cases hrun
    | succ n9_4 ih4 =>
      intro x2_4 x3_4 H locs hP hD hS ls hl hrun
      rw [f_X6_sureOf_L4] at hrun
      refine lv_iload_n hx hb dX6_sureOf_4 rfl (lv_at hl 3 rfl) ?_
      refine lv_aload_n hx hb dX6_sureOf_5 rfl (lv_at hl 0 rfl) ?_
      refine va_get (D := (dC, dI)) (ci := 6) (v := .int d_askers) (C := RX6) (T := TX6) (N := 30) hx hb hts iwX6 hown hK hP 0 rfl rfl 5 (by decide) (hts (.fieldLink RX6 55 "SkyListenersModel" "askers" "I") (by decide +kernel)) (fun _ h9 => h9) rfl dX6_sureOf_6 ?_
      refine lv_icmp_ge (tgt := 43) hx hb dX6_sureOf_9 (by decide) (fun c_9 => ?_) (fun c_9 => ?_)
      · rw [if_pos c_9] at hrun
        refine lv_iload_n hx hb dX6_sureOf_43 rfl (lv_at hl 2 rfl) ?_
        have hrun := Option.some.inj hrun
        subst hrun
        rw [hQ]
        exact W.iret (v := x2_4) hx hb hr (fun t ht hW => ⟨⟨x2_4, (), rfl, rfl, by rw [ht]; exact hP, hD⟩, hS.F ht⟩) hS.2.2 dX6_sureOf_44
      · rw [if_neg c_9] at hrun
        refine lv_iload_n hx hb dX6_sureOf_12 rfl (lv_at hl 2 rfl) ?_
        refine lv_iload_n hx hb dX6_sureOf_13 rfl (lv_at hl 1 rfl) ?_
        refine lv_iload_n hx hb dX6_sureOf_14 rfl (lv_at hl 3 rfl) ?_
        have hPc : va_P (dC, dI) vwCl [] H := hP.sub [] rfl
        have hDc : va_D A [] := hD.sub [] (by decide) rfl
        have hFc := va_free (wc := []) hD hS hA [] rfl
        refine va_calli (va_runS (As := [.int x1, .int x3_4]) (rest := [.int x2_4]) ⟨hx, hb, hml, hown, hts⟩ (c_X6_has l dC dI cI cZ H.size x1 x3_4 (f_X6_has x1 x3_4) rfl) (va_cwS 2 hts gX6_sureOf_X6_has rfl rfl rfl (by decide +kernel) ⟨Nat.le_of_ble_eq_true rfl, Nat.le_of_ble_eq_true rfl⟩) ⟨fun a U g mk q => ⟨q.1, PC.mv q.2⟩, fun U hU hW => ⟨rfl, PC.of hU hW hPc hK hDc hN⟩⟩ rfl rfl hl.1 rfl (lv_room (Nat.le_of_ble_eq_true rfl)) dX6_sureOf_15 ⟨Nat.zero_le _, Nat.zero_le _⟩) hS (fun q _ h => hFc q h) hFc (fun r_15 u t H1 locs ht hvm hw hB hz1 hk1 hS => ?_)
        obtain ⟨hP1, hD1⟩ := hB
        try dsimp only at hw
        rw [hw]
        rw [ht] at hP1
        have hP : va_P (dC, dI) vwCl [(p_this, .inr (6, [.int d_dishes, .int d_speakers, .ref p_speaker, .int d_noises, .ref p_noise, .int d_askers, .ref p_asker, .ref p_st, .ref p_images, .ref p_isKept, .long d_trace, .ref p_text, .int d_texted, .int d_cursor, .int d_start, .int d_token, .int d_number, .long d_word, .int d_isWrong, .int d_saidDishes, .ref p_saidMount, .int d_saidSpeakers, .ref p_saidSpeaker, .int d_saidNoises, .ref p_saidNoise, .int d_saidAskers, .ref p_saidAsker, .ref p_room, .int d_couldBe, .int d_couldHere])), (p_asker, .inl (cI, 10, .inl d_asker))] H1 := join_ro hP hD [] rfl hk1 hP1
        clear hPc hDc hFc hk1 hz1 hP1 hD1 ht hvm
        generalize H1 = H at hP hS ⊢
        have J35 : ∀ (t1_35 : Int32) (H : Heap) (locs : List Loc), va_P (dC, dI) vwCl [(p_this, .inr (6, [.int d_dishes, .int d_speakers, .ref p_speaker, .int d_noises, .ref p_noise, .int d_askers, .ref p_asker, .ref p_st, .ref p_images, .ref p_isKept, .long d_trace, .ref p_text, .int d_texted, .int d_cursor, .int d_start, .int d_token, .int d_number, .long d_word, .int d_isWrong, .int d_saidDishes, .ref p_saidMount, .int d_saidSpeakers, .ref p_saidSpeaker, .int d_saidNoises, .ref p_saidNoise, .int d_saidAskers, .ref p_saidAsker, .ref p_room, .int d_couldBe, .int d_couldHere])), (p_asker, .inl (cI, 10, .inl d_asker))] H → va_D A [(p_this, .inr (6, [.int d_dishes, .int d_speakers, .ref p_speaker, .int d_noises, .ref p_noise, .int d_askers, .ref p_asker, .ref p_st, .ref p_images, .ref p_isKept, .long d_trace, .ref p_text, .int d_texted, .int d_cursor, .int d_start, .int d_token, .int d_number, .long d_word, .int d_isWrong, .int d_saidDishes, .ref p_saidMount, .int d_saidSpeakers, .ref p_saidSpeaker, .int d_saidNoises, .ref p_saidNoise, .int d_saidAskers, .ref p_saidAsker, .ref p_room, .int d_couldBe, .int d_couldHere])), (p_asker, .inl (cI, 10, .inl d_asker))] → va_S A s.heap H locs → ∀ ls : Array Slot, lv_has ls 4 [(0, .ref p_this), (1, .int x1), (3, .int x3_4)] → f_X6_sureOf_J35 (f_X6_sureOf_L4 x1 d_askers d_asker n9_4) x1 x3_4 x2_4 d_askers d_asker t1_35 = some out → W p l e ({ frames := 1, cells := 0, slots := 0, locals := 21 } : Room) s m ([.ref p_this, .int x1] : List Value).toArray below meth c H locs 0 0 Q (F0 m 35 ls [.int t1_35, .int x2_4]) := by
          intro t1_35 H locs hP hD hS ls hl hrun
          rw [f_X6_sureOf_J35] at hrun
          refine lv_iadd hx hb dX6_sureOf_35 ?_
          refine lv_istore_n (lv' := [(2, .int (x2_4 + t1_35)), (0, .ref p_this), (1, .int x1), (3, .int x3_4)]) hx hb dX6_sureOf_36 rfl hl (by decide) rfl (fun ls hl => ?_)
          refine lv_iinc (v := x3_4 + 1) (lv' := [(3, .int (x3_4 + 1)), (2, .int (x2_4 + t1_35)), (0, .ref p_this), (1, .int x1)]) hx hb dX6_sureOf_37 hl (k := 3) rfl rfl (by decide) rfl (fun ls hl => ?_)
          refine lv_goto (tgt := 4) hx hb dX6_sureOf_40 (by decide) ?_
          exact ih4 (x2_4 + t1_35) (x3_4 + 1) H locs hP hD hS ls (lv_sub hl [2, 3, 1, 0] rfl) hrun
        refine lv_if_eq (tgt := 34) hx hb dX6_sureOf_18 (by decide) (fun c_18 => ?_) (fun c_18 => ?_)
        · rw [if_pos c_18] at hrun
          refine lv_iconst (v := 0) hx hb dX6_sureOf_34 (by decide) ?_
          exact J35 0 H locs hP hD hS ls (lv_sub hl [0, 1, 3] rfl) hrun
        · rw [if_neg c_18] at hrun
          refine lv_aload_n hx hb dX6_sureOf_21 rfl (lv_at hl 0 rfl) ?_
          refine va_get (D := (dC, dI)) (ci := 6) (v := .ref p_asker) (C := RX6) (T := TX6) (N := 30) hx hb hts iwX6 hown hK hP 0 rfl rfl 6 (by decide) (hts (.fieldLink RX6 16 "SkyListenersModel" "asker" "[I") (by decide +kernel)) (fun _ h9 => h9) rfl dX6_sureOf_22 ?_
          refine lv_iconst (v := 2) hx hb dX6_sureOf_25 (by decide) ?_
          refine lv_iload_n hx hb dX6_sureOf_26 rfl (lv_at hl 3 rfl) ?_
          refine lv_imul hx hb dX6_sureOf_27 ?_
          refine lv_iconst (v := 1) hx hb dX6_sureOf_28 (by decide) ?_
          refine lv_iadd hx hb dX6_sureOf_29 ?_
          rcases Classical.em (((2 * x3_4) + 1) < 0 ∨ 10 ≤ ((2 * x3_4) + 1).toNatClampNeg) with g_30 | g_30
          · rw [if_pos g_30] at hrun; cases hrun
          rw [if_neg g_30] at hrun
          refine va_iald hx hb hK hP 1 0 rfl rfl g_30 dX6_sureOf_30 ?_
          refine lv_goto (tgt := 35) hx hb dX6_sureOf_31 (by decide) ?_
          exact J35 (d_asker ((2 * x3_4) + 1).toNatClampNeg) H locs hP hD hS ls (lv_sub hl [0, 1, 3] rfl) hrun
  exact L4 FU 0 0 H locs hP hD hS ls (lv_sub hl [2, 3, 1, 0] rfl) hrun
