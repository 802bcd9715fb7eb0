-- SkyListenersModel.best
def f_X6_best_X81 (x3 : Int32) (d_askers : Int32) (d_asker : Nat → Int32) (d_room : Nat → Int32) (x4 : Int32) : Option (Int32 × (Nat → Int32)) := (if x3 = 0 then ((f_X6_sureOf d_askers d_asker x4).bind fun q88 => (some (q88, d_room))) else (some (x4, d_room)))
def f_X6_best_J71 (K31 : Int32 → Int32 → Option (Int32 × (Nat → Int32))) (x3 : Int32) (x4 : Int32) (x5 : Int32) (d_askers : Int32) (d_asker : Nat → Int32) (d_room : Nat → Int32) : Option (Int32 × (Nat → Int32)) := (K31 x4 (x5 + 1))
def f_X6_best_J73 (K31 : Int32 → Int32 → Option (Int32 × (Nat → Int32))) (x3 : Int32) (x5 : Int32) (d_askers : Int32) (d_asker : Nat → Int32) (d_room : Nat → Int32) (t0 : Int32) : Option (Int32 × (Nat → Int32)) := (K31 t0 (x5 + 1))
def f_X6_best_L31 (K81 : Int32 → Option (Int32 × (Nat → Int32))) (x3 : Int32) (d_askers : Int32) (d_asker : Nat → Int32) (d_room : Nat → Int32) : Nat → Int32 → Int32 → Option (Int32 × (Nat → Int32))
  | 0, _, _ => none
  | n9 + 1, x4, x5 => (if (1 <<< (d_askers &&& 31)) ≤ x5 then (K81 x4) else ((f_X6_isRoomFor d_askers d_asker d_room x5).bind fun q45 => (if q45 = 0 then (f_X6_best_J71 (f_X6_best_L31 K81 x3 d_askers d_asker d_room n9) x3 x4 x5 d_askers d_asker d_room) else ((f_X6_sureOf d_askers d_asker x5).bind fun q54 => ((f_X6_sureOf d_askers d_asker x4).bind fun q60 => (if q54 ≤ q60 then (f_X6_best_J71 (f_X6_best_L31 K81 x3 d_askers d_asker d_room n9) x3 x4 x5 d_askers d_asker d_room) else (f_X6_best_J73 (f_X6_best_L31 K81 x3 d_askers d_asker d_room n9) x3 x5 d_askers d_asker d_room x5)))))))
def f_X6_best (d_dishes : Int32) (d_askers : Int32) (d_asker : Nat → Int32) (d_room : Nat → Int32) (d_st : Nat → Int32) (x1 : Int32) (x2 : Int32) (x3 : Int32) : Option (Int32 × (Nat → Int32)) := (if (f_X6_areHours x1 x2) = 0 then (some ((-1), d_room)) else (if (f_X6_in x3 0 1) = 0 then (some ((-1), d_room)) else ((f_X6_findRoom d_dishes d_room d_st x1 x2).bind fun q22 => (f_X6_best_L31 (f_X6_best_X81 x3 d_askers d_asker q22) x3 d_askers d_asker q22 FU 0 1))))
set_option maxHeartbeats 4000000 in
set_option maxRecDepth 100000 in
theorem c_X6_best (l : Launch) (dC : Nat → ClassId) (dI : Nat → Nat → Nat) (cI cZ : ClassId) (sz : Nat) (p_asker p_images p_isKept p_noise p_room p_saidAsker p_saidMount p_saidNoise p_saidSpeaker p_speaker p_st p_text p_this : Nat) (d_dishes : Int32) (d_speakers : Int32) (d_noises : Int32) (d_askers : Int32) (d_trace : Int64) (d_texted : Int32) (d_cursor : Int32) (d_start : Int32) (d_token : Int32) (d_number : Int32) (d_word : Int64) (d_isWrong : Int32) (d_saidDishes : Int32) (d_saidSpeakers : Int32) (d_saidNoises : Int32) (d_saidAskers : Int32) (d_couldBe : Int32) (d_couldHere : Int32) (d_asker : Nat → Int32) (d_room : Nat → Int32) (d_st : Nat → Int32) (x1 : Int32) (x2 : Int32) (x3 : Int32) (out : Int32 × (Nat → Int32)) (hrun : f_X6_best d_dishes d_askers d_asker d_room d_st x1 x2 x3 = some out) : Met l yX6_best wsX6_best ({ frames := 3, cells := 0, slots := 0, locals := 63 } : Room) (va_Pc [.ref p_this, .int x1, .int x2, .int x3] (PC dC dI cI cZ sz ([(p_this, .inr (6, [.int d_dishes, .int d_speakers, .ref p_speaker, .int d_noises, .ref p_noise, .int d_askers, .ref p_asker, .ref p_st, .ref p_images, .ref p_isKept, .long d_trace, .ref p_text, .int d_texted, .int d_cursor, .int d_start, .int d_token, .int d_number, .long d_word, .int d_isWrong, .int d_saidDishes, .ref p_saidMount, .int d_saidSpeakers, .ref p_saidSpeaker, .int d_saidNoises, .ref p_saidNoise, .int d_saidAskers, .ref p_saidAsker, .ref p_room, .int d_couldBe, .int d_couldHere])), (p_asker, .inl (cI, 10, .inl d_asker)), (p_room, .inl (cI, 8, .inl d_room)), (p_st, .inl (cI, 104, .inl d_st))] : va_W))) (va_Qi (fun r (_ : Unit) => r = out.1) (fun _ t => va_P (dC, dI) vwCl [(p_this, .inr (6, [.int d_dishes, .int d_speakers, .ref p_speaker, .int d_noises, .ref p_noise, .int d_askers, .ref p_asker, .ref p_st, .ref p_images, .ref p_isKept, .long d_trace, .ref p_text, .int d_texted, .int d_cursor, .int d_start, .int d_token, .int d_number, .long d_word, .int d_isWrong, .int d_saidDishes, .ref p_saidMount, .int d_saidSpeakers, .ref p_saidSpeaker, .int d_saidNoises, .ref p_saidNoise, .int d_saidAskers, .ref p_saidAsker, .ref p_room, .int d_couldBe, .int d_couldHere])), (p_asker, .inl (cI, 10, .inl d_asker)), (p_room, .inl (cI, 8, .inl out.2)), (p_st, .inl (cI, 104, .inl d_st))] t.heap ∧ va_D (va_A ([(p_this, .inr (6, [.int d_dishes, .int d_speakers, .ref p_speaker, .int d_noises, .ref p_noise, .int d_askers, .ref p_asker, .ref p_st, .ref p_images, .ref p_isKept, .long d_trace, .ref p_text, .int d_texted, .int d_cursor, .int d_start, .int d_token, .int d_number, .long d_word, .int d_isWrong, .int d_saidDishes, .ref p_saidMount, .int d_saidSpeakers, .ref p_saidSpeaker, .int d_saidNoises, .ref p_saidNoise, .int d_saidAskers, .ref p_saidAsker, .ref p_room, .int d_couldBe, .int d_couldHere])), (p_asker, .inl (cI, 10, .inl d_asker)), (p_room, .inl (cI, 8, .inl d_room)), (p_st, .inl (cI, 104, .inl d_st))] : va_W) sz) [(p_this, .inr (6, [.int d_dishes, .int d_speakers, .ref p_speaker, .int d_noises, .ref p_noise, .int d_askers, .ref p_asker, .ref p_st, .ref p_images, .ref p_isKept, .long d_trace, .ref p_text, .int d_texted, .int d_cursor, .int d_start, .int d_token, .int d_number, .long d_word, .int d_isWrong, .int d_saidDishes, .ref p_saidMount, .int d_saidSpeakers, .ref p_saidSpeaker, .int d_saidNoises, .ref p_saidNoise, .int d_saidAskers, .ref p_saidAsker, .ref p_room, .int d_couldBe, .int d_couldHere])), (p_asker, .inl (cI, 10, .inl d_asker)), (p_room, .inl (cI, 8, .inl out.2)), (p_st, .inl (cI, 104, .inl d_st))]) (va_A ([(p_this, .inr (6, [.int d_dishes, .int d_speakers, .ref p_speaker, .int d_noises, .ref p_noise, .int d_askers, .ref p_asker, .ref p_st, .ref p_images, .ref p_isKept, .long d_trace, .ref p_text, .int d_texted, .int d_cursor, .int d_start, .int d_token, .int d_number, .long d_word, .int d_isWrong, .int d_saidDishes, .ref p_saidMount, .int d_saidSpeakers, .ref p_saidSpeaker, .int d_saidNoises, .ref p_saidNoise, .int d_saidAskers, .ref p_saidAsker, .ref p_room, .int d_couldBe, .int d_couldHere])), (p_asker, .inl (cI, 10, .inl d_asker)), (p_room, .inl (cI, 8, .inl d_room)), (p_st, .inl (cI, 104, .inl d_st))] : va_W) sz)) 0 0 (va_A ([(p_this, .inr (6, [.int d_dishes, .int d_speakers, .ref p_speaker, .int d_noises, .ref p_noise, .int d_askers, .ref p_asker, .ref p_st, .ref p_images, .ref p_isKept, .long d_trace, .ref p_text, .int d_texted, .int d_cursor, .int d_start, .int d_token, .int d_number, .long d_word, .int d_isWrong, .int d_saidDishes, .ref p_saidMount, .int d_saidSpeakers, .ref p_saidSpeaker, .int d_saidNoises, .ref p_saidNoise, .int d_saidAskers, .ref p_saidAsker, .ref p_room, .int d_couldBe, .int d_couldHere])), (p_asker, .inl (cI, 10, .inl d_asker)), (p_room, .inl (cI, 8, .inl d_room)), (p_st, .inl (cI, 104, .inl d_st))] : va_W) sz) := by
  refine Met.ofW (cc := cX6_best) (maxL := 6) (ret := (some .int)) (by decide) rfl ?_
  intro p e s m args below meth c s₁ B hml hv
  obtain ⟨rfl, hsz, hP, hK, hD0, hN⟩ := hv
  have hx := B.exec
  have hb := B.bytes
  have hr := B.returns
  have hts := atoms_spec (ws := wsX6_best) B.pre
  have hown : s.vm.findClass RX6 = some m.cls := findClass_of_methodNamed B.named
  have hlocks := B.notSynchronized
  subst hsz
  have hD := hD0.self (sz := s.heap.size)
  generalize hAe : va_A ([(p_this, .inr (6, [.int d_dishes, .int d_speakers, .ref p_speaker, .int d_noises, .ref p_noise, .int d_askers, .ref p_asker, .ref p_st, .ref p_images, .ref p_isKept, .long d_trace, .ref p_text, .int d_texted, .int d_cursor, .int d_start, .int d_token, .int d_number, .long d_word, .int d_isWrong, .int d_saidDishes, .ref p_saidMount, .int d_saidSpeakers, .ref p_saidSpeaker, .int d_saidNoises, .ref p_saidNoise, .int d_saidAskers, .ref p_saidAsker, .ref p_room, .int d_couldBe, .int d_couldHere])), (p_asker, .inl (cI, 10, .inl d_asker)), (p_room, .inl (cI, 8, .inl d_room)), (p_st, .inl (cI, 104, .inl d_st))] : va_W) s.heap.size = A at hD ⊢
  have hA : ∀ q : Nat, s.heap.size ≤ q → A q := fun q h => by rw [← hAe]; exact Or.inr h
  have hS : va_S A s.heap s.heap [] := va_S.rf
  refine W_abs (fun Q hQ => ?_)
  have hl := lv_entry ([.ref p_this, .int x1, .int x2, .int x3]) (n := 6) (Nat.le_of_ble_eq_true rfl)
  rw [lg_entry_eq]
  generalize (lg_sl ([.ref p_this, .int x1, .int x2, .int x3]) ++ List.replicate (6 - (lg_sl ([.ref p_this, .int x1, .int x2, .int x3])).length) Slot.unset).toArray = ls at hl ⊢
  have hl : lv_has ls 6 [(0, .ref p_this), (1, .int x1), (2, .int x2), (3, .int x3)] := hl
  rw [f_X6_best] at hrun
  refine W_start (ws := [(p_this, .inr (6, [.int d_dishes, .int d_speakers, .ref p_speaker, .int d_noises, .ref p_noise, .int d_askers, .ref p_asker, .ref p_st, .ref p_images, .ref p_isKept, .long d_trace, .ref p_text, .int d_texted, .int d_cursor, .int d_start, .int d_token, .int d_number, .long d_word, .int d_isWrong, .int d_saidDishes, .ref p_saidMount, .int d_saidSpeakers, .ref p_saidSpeaker, .int d_saidNoises, .ref p_saidNoise, .int d_saidAskers, .ref p_saidAsker, .ref p_room, .int d_couldBe, .int d_couldHere])), (p_asker, .inl (cI, 10, .inl d_asker)), (p_room, .inl (cI, 8, .inl d_room)), (p_st, .inl (cI, 104, .inl d_st))]) hP hS (fun H locs hP hS => ?_)
  have iwX6 : ∀ w ∈ wsX60, w ∈ wsX6_best := by decide +kernel
  refine lv_iload_n hx hb dX6_best_0 rfl (lv_at hl 1 rfl) ?_
  refine lv_iload_n hx hb dX6_best_1 rfl (lv_at hl 2 rfl) ?_
  have hPc : va_P (dC, dI) vwCl [] H := hP.sub [] rfl
  have hDc : va_D A [] := hD.sub [] (by decide) rfl
  have hFc := va_free (wc := []) hD hS hA [] rfl
  refine va_calli (va_runS (As := [.int x1, .int x2]) (rest := []) ⟨hx, hb, hml, hown, hts⟩ (c_X6_areHours l dC dI cI cZ H.size x1 x2 (f_X6_areHours x1 x2) rfl) (va_cwS 2 hts gX6_best_X6_areHours rfl rfl rfl (by decide +kernel) ⟨Nat.le_of_ble_eq_true rfl, Nat.le_of_ble_eq_true rfl⟩) ⟨fun a U g mk q => ⟨q.1, PC.mv q.2⟩, fun U hU hW => ⟨rfl, PC.of hU hW hPc hK hDc hN⟩⟩ rfl rfl hl.1 rfl (lv_room (Nat.le_of_ble_eq_true rfl)) dX6_best_2 ⟨Nat.zero_le _, Nat.zero_le _⟩) hS (fun q _ h => hFc q h) hFc (fun r_2 u t H1 locs ht hvm hw hB hz1 hk1 hS => ?_)
  obtain ⟨hP1, hD1⟩ := hB
  try dsimp only at hw
  rw [hw]
  rw [ht] at hP1
  have hP : va_P (dC, dI) vwCl [(p_this, .inr (6, [.int d_dishes, .int d_speakers, .ref p_speaker, .int d_noises, .ref p_noise, .int d_askers, .ref p_asker, .ref p_st, .ref p_images, .ref p_isKept, .long d_trace, .ref p_text, .int d_texted, .int d_cursor, .int d_start, .int d_token, .int d_number, .long d_word, .int d_isWrong, .int d_saidDishes, .ref p_saidMount, .int d_saidSpeakers, .ref p_saidSpeaker, .int d_saidNoises, .ref p_saidNoise, .int d_saidAskers, .ref p_saidAsker, .ref p_room, .int d_couldBe, .int d_couldHere])), (p_asker, .inl (cI, 10, .inl d_asker)), (p_room, .inl (cI, 8, .inl d_room)), (p_st, .inl (cI, 104, .inl d_st))] H1 := join_ro hP hD [] rfl hk1 hP1
  clear hPc hDc hFc hk1 hz1 hP1 hD1 ht hvm
  generalize H1 = H at hP hS ⊢
  refine lv_if_eq (tgt := 17) hx hb dX6_best_5 (by decide) (fun c_5 => ?_) (fun c_5 => ?_)
  · rw [if_pos c_5] at hrun
    refine lv_iconst (v := (-1)) hx hb dX6_best_17 (by decide) ?_
    have hrun := Option.some.inj hrun
    subst hrun
    rw [hQ]
    exact W.iret (v := (-1)) hx hb hr (fun t ht hW => ⟨⟨(-1), (), rfl, rfl, by rw [ht]; exact hP, hD⟩, hS.F ht⟩) hS.2.2 dX6_best_18
  · rw [if_neg c_5] at hrun
    refine lv_iload_n hx hb dX6_best_8 rfl (lv_at hl 3 rfl) ?_
    refine lv_iconst (v := 0) hx hb dX6_best_9 (by decide) ?_
    refine lv_iconst (v := 1) hx hb dX6_best_10 (by decide) ?_
    have hPc : va_P (dC, dI) vwCl [] H := hP.sub [] rfl
    have hDc : va_D A [] := hD.sub [] (by decide) rfl
    have hFc := va_free (wc := []) hD hS hA [] rfl
    refine va_calli (va_runS (As := [.int x3, .int 0, .int 1]) (rest := []) ⟨hx, hb, hml, hown, hts⟩ (c_X6_in l dC dI cI cZ H.size x3 0 1 (f_X6_in x3 0 1) rfl) (va_cwS 3 hts gX6_best_X6_in rfl rfl rfl (by decide +kernel) ⟨Nat.le_of_ble_eq_true rfl, Nat.le_of_ble_eq_true rfl⟩) ⟨fun a U g mk q => ⟨q.1, PC.mv q.2⟩, fun U hU hW => ⟨rfl, PC.of hU hW hPc hK hDc hN⟩⟩ rfl rfl hl.1 rfl (lv_room (Nat.le_of_ble_eq_true rfl)) dX6_best_11 ⟨Nat.zero_le _, Nat.zero_le _⟩) hS (fun q _ h => hFc q h) hFc (fun r_11 u t H1 locs ht hvm hw hB hz1 hk1 hS => ?_)
    obtain ⟨hP1, hD1⟩ := hB
    try dsimp only at hw
    rw [hw]
    rw [ht] at hP1
    have hP : va_P (dC, dI) vwCl [(p_this, .inr (6, [.int d_dishes, .int d_speakers, .ref p_speaker, .int d_noises, .ref p_noise, .int d_askers, .ref p_asker, .ref p_st, .ref p_images, .ref p_isKept, .long d_trace, .ref p_text, .int d_texted, .int d_cursor, .int d_start, .int d_token, .int d_number, .long d_word, .int d_isWrong, .int d_saidDishes, .ref p_saidMount, .int d_saidSpeakers, .ref p_saidSpeaker, .int d_saidNoises, .ref p_saidNoise, .int d_saidAskers, .ref p_saidAsker, .ref p_room, .int d_couldBe, .int d_couldHere])), (p_asker, .inl (cI, 10, .inl d_asker)), (p_room, .inl (cI, 8, .inl d_room)), (p_st, .inl (cI, 104, .inl d_st))] H1 := join_ro hP hD [] rfl hk1 hP1
    clear hPc hDc hFc hk1 hz1 hP1 hD1 ht hvm
    generalize H1 = H at hP hS ⊢
    refine lv_if_ne (tgt := 19) hx hb dX6_best_14 (by decide) (fun c_14 => ?_) (fun c_14 => ?_)
    · rw [if_neg c_14] at hrun
      refine lv_aload_n hx hb dX6_best_19 rfl (lv_at hl 0 rfl) ?_
      refine lv_iload_n hx hb dX6_best_20 rfl (lv_at hl 1 rfl) ?_
      refine lv_iload_n hx hb dX6_best_21 rfl (lv_at hl 2 rfl) ?_
      obtain ⟨q22, hq22, hrun⟩ := bind_out hrun
      have hPc : va_P (dC, dI) vwCl [(p_this, .inr (6, [.int d_dishes, .int d_speakers, .ref p_speaker, .int d_noises, .ref p_noise, .int d_askers, .ref p_asker, .ref p_st, .ref p_images, .ref p_isKept, .long d_trace, .ref p_text, .int d_texted, .int d_cursor, .int d_start, .int d_token, .int d_number, .long d_word, .int d_isWrong, .int d_saidDishes, .ref p_saidMount, .int d_saidSpeakers, .ref p_saidSpeaker, .int d_saidNoises, .ref p_saidNoise, .int d_saidAskers, .ref p_saidAsker, .ref p_room, .int d_couldBe, .int d_couldHere])), (p_room, .inl (cI, 8, .inl d_room)), (p_st, .inl (cI, 104, .inl d_st))] H := hP.sub [0, 2, 3] rfl
      have hDc : va_D A [(p_this, .inr (6, [.int d_dishes, .int d_speakers, .ref p_speaker, .int d_noises, .ref p_noise, .int d_askers, .ref p_asker, .ref p_st, .ref p_images, .ref p_isKept, .long d_trace, .ref p_text, .int d_texted, .int d_cursor, .int d_start, .int d_token, .int d_number, .long d_word, .int d_isWrong, .int d_saidDishes, .ref p_saidMount, .int d_saidSpeakers, .ref p_saidSpeaker, .int d_saidNoises, .ref p_saidNoise, .int d_saidAskers, .ref p_saidAsker, .ref p_room, .int d_couldBe, .int d_couldHere])), (p_room, .inl (cI, 8, .inl d_room)), (p_st, .inl (cI, 104, .inl d_st))] := hD.sub [0, 2, 3] (by decide) rfl
      have hFc := va_free (wc := [(p_this, .inr (6, [.int d_dishes, .int d_speakers, .ref p_speaker, .int d_noises, .ref p_noise, .int d_askers, .ref p_asker, .ref p_st, .ref p_images, .ref p_isKept, .long d_trace, .ref p_text, .int d_texted, .int d_cursor, .int d_start, .int d_token, .int d_number, .long d_word, .int d_isWrong, .int d_saidDishes, .ref p_saidMount, .int d_saidSpeakers, .ref p_saidSpeaker, .int d_saidNoises, .ref p_saidNoise, .int d_saidAskers, .ref p_saidAsker, .ref p_room, .int d_couldBe, .int d_couldHere])), (p_room, .inl (cI, 8, .inl d_room)), (p_st, .inl (cI, 104, .inl d_st))]) hD hS hA [0, 2, 3] rfl
      refine va_callv (va_runV (As := [.int x1, .int x2]) (rest := []) ⟨hx, hb, hml, hown, hts⟩ (c_X6_findRoom l dC dI cI cZ H.size p_asker p_images p_isKept p_noise p_room p_saidAsker p_saidMount p_saidNoise p_saidSpeaker p_speaker p_st p_text p_this d_dishes d_speakers d_noises d_askers d_trace d_texted d_cursor d_start d_token d_number d_word d_isWrong d_saidDishes d_saidSpeakers d_saidNoises d_saidAskers d_couldBe d_couldHere d_room d_st x1 x2 q22 hq22) (cwV 2 hts gX6_best_X6_findRoom rfl rfl rfl (by decide +kernel) ⟨Nat.le_of_ble_eq_true rfl, Nat.le_of_ble_eq_true rfl⟩) ⟨fun a U g mk q => ⟨q.1, PC.mv q.2⟩, va_recv hK hP (ci := 6) (q0 := 0) rfl rfl, fun U hU hW => ⟨rfl, PC.of hU hW hPc hK hDc hN⟩⟩ rfl rfl hl.1 rfl (lv_room (Nat.le_of_ble_eq_true rfl)) dX6_best_22 ⟨Nat.zero_le _, Nat.zero_le _⟩) hS (fun q _ h => hFc q h) hFc (fun u t H1 locs ht hvm hw hB hz1 hk1 hS => ?_)
      obtain ⟨hP1, hD1⟩ := hB
      rw [ht] at hP1
      obtain ⟨hP, hD⟩ := va_join (wr := [(p_asker, .inl (cI, 10, .inl d_asker))]) (w1 := [(p_this, .inr (6, [.int d_dishes, .int d_speakers, .ref p_speaker, .int d_noises, .ref p_noise, .int d_askers, .ref p_asker, .ref p_st, .ref p_images, .ref p_isKept, .long d_trace, .ref p_text, .int d_texted, .int d_cursor, .int d_start, .int d_token, .int d_number, .long d_word, .int d_isWrong, .int d_saidDishes, .ref p_saidMount, .int d_saidSpeakers, .ref p_saidSpeaker, .int d_saidNoises, .ref p_saidNoise, .int d_saidAskers, .ref p_saidAsker, .ref p_room, .int d_couldBe, .int d_couldHere])), (p_room, .inl (cI, 8, .inl q22)), (p_st, .inl (cI, 104, .inl d_st))]) hP hD [0, 2, 3] [1] rfl rfl (by decide) (by decide) hk1 hFc hP1 hD1
      have hP : va_P (dC, dI) vwCl [(p_this, .inr (6, [.int d_dishes, .int d_speakers, .ref p_speaker, .int d_noises, .ref p_noise, .int d_askers, .ref p_asker, .ref p_st, .ref p_images, .ref p_isKept, .long d_trace, .ref p_text, .int d_texted, .int d_cursor, .int d_start, .int d_token, .int d_number, .long d_word, .int d_isWrong, .int d_saidDishes, .ref p_saidMount, .int d_saidSpeakers, .ref p_saidSpeaker, .int d_saidNoises, .ref p_saidNoise, .int d_saidAskers, .ref p_saidAsker, .ref p_room, .int d_couldBe, .int d_couldHere])), (p_asker, .inl (cI, 10, .inl d_asker)), (p_room, .inl (cI, 8, .inl q22)), (p_st, .inl (cI, 104, .inl d_st))] H1 := hP.sub [1, 0, 2, 3] rfl
      have hD : va_D A [(p_this, .inr (6, [.int d_dishes, .int d_speakers, .ref p_speaker, .int d_noises, .ref p_noise, .int d_askers, .ref p_asker, .ref p_st, .ref p_images, .ref p_isKept, .long d_trace, .ref p_text, .int d_texted, .int d_cursor, .int d_start, .int d_token, .int d_number, .long d_word, .int d_isWrong, .int d_saidDishes, .ref p_saidMount, .int d_saidSpeakers, .ref p_saidSpeaker, .int d_saidNoises, .ref p_saidNoise, .int d_saidAskers, .ref p_saidAsker, .ref p_room, .int d_couldBe, .int d_couldHere])), (p_asker, .inl (cI, 10, .inl d_asker)), (p_room, .inl (cI, 8, .inl q22)), (p_st, .inl (cI, 104, .inl d_st))] := hD.sub [1, 0, 2, 3] (by decide) rfl
      clear hPc hDc hFc hk1 hz1 hP1 hD1 ht hvm
      generalize H1 = H at hP hS ⊢
      refine lv_iconst (v := 0) hx hb dX6_best_25 (by decide) ?_
      refine lv_istore (lv' := [(4, .int 0), (0, .ref p_this), (1, .int x1), (2, .int x2), (3, .int x3)]) hx hb dX6_best_26 hl (by decide) rfl (fun ls hl => ?_)
      refine lv_iconst (v := 1) hx hb dX6_best_28 (by decide) ?_
      refine lv_istore (lv' := [(5, .int 1), (4, .int 0), (0, .ref p_this), (1, .int x1), (2, .int x2), (3, .int x3)]) hx hb dX6_best_29 hl (by decide) rfl (fun ls hl => ?_)
      have X81 : ∀ (x4_81 : Int32) (H : Heap) (locs : List Loc), va_P (dC, dI) vwCl [(p_this, .inr (6, [.int d_dishes, .int d_speakers, .ref p_speaker, .int d_noises, .ref p_noise, .int d_askers, .ref p_asker, .ref p_st, .ref p_images, .ref p_isKept, .long d_trace, .ref p_text, .int d_texted, .int d_cursor, .int d_start, .int d_token, .int d_number, .long d_word, .int d_isWrong, .int d_saidDishes, .ref p_saidMount, .int d_saidSpeakers, .ref p_saidSpeaker, .int d_saidNoises, .ref p_saidNoise, .int d_saidAskers, .ref p_saidAsker, .ref p_room, .int d_couldBe, .int d_couldHere])), (p_asker, .inl (cI, 10, .inl d_asker)), (p_room, .inl (cI, 8, .inl q22)), (p_st, .inl (cI, 104, .inl d_st))] H → va_D A [(p_this, .inr (6, [.int d_dishes, .int d_speakers, .ref p_speaker, .int d_noises, .ref p_noise, .int d_askers, .ref p_asker, .ref p_st, .ref p_images, .ref p_isKept, .long d_trace, .ref p_text, .int d_texted, .int d_cursor, .int d_start, .int d_token, .int d_number, .long d_word, .int d_isWrong, .int d_saidDishes, .ref p_saidMount, .int d_saidSpeakers, .ref p_saidSpeaker, .int d_saidNoises, .ref p_saidNoise, .int d_saidAskers, .ref p_saidAsker, .ref p_room, .int d_couldBe, .int d_couldHere])), (p_asker, .inl (cI, 10, .inl d_asker)), (p_room, .inl (cI, 8, .inl q22)), (p_st, .inl (cI, 104, .inl d_st))] → va_S A s.heap H locs → ∀ ls : Array Slot, lv_has ls 6 [(0, .ref p_this), (3, .int x3), (4, .int x4_81)] → f_X6_best_X81 x3 d_askers d_asker q22 x4_81 = some out → W p l e ({ frames := 3, cells := 0, slots := 0, locals := 63 } : Room) s m ([.ref p_this, .int x1, .int x2, .int x3] : List Value).toArray below meth c H locs 0 0 Q (F0 m 81 ls []) := by
        intro x4_81 H locs hP hD hS ls hl hrun
        rw [f_X6_best_X81] at hrun
        refine lv_iload_n hx hb dX6_best_81 rfl (lv_at hl 1 rfl) ?_
        refine lv_if_ne (tgt := 94) hx hb dX6_best_82 (by decide) (fun c_82 => ?_) (fun c_82 => ?_)
        · rw [if_neg c_82] at hrun
          refine lv_iload hx hb dX6_best_94 (lv_at hl 2 rfl) ?_
          have hrun := Option.some.inj hrun
          subst hrun
          rw [hQ]
          exact W.iret (v := x4_81) hx hb hr (fun t ht hW => ⟨⟨x4_81, (), rfl, rfl, by rw [ht]; exact hP, hD⟩, hS.F ht⟩) hS.2.2 dX6_best_96
        · rw [if_pos c_82] at hrun
          refine lv_aload_n hx hb dX6_best_85 rfl (lv_at hl 0 rfl) ?_
          refine lv_iload hx hb dX6_best_86 (lv_at hl 2 rfl) ?_
          obtain ⟨q88, hq88, hrun⟩ := bind_out hrun
          have hPc : va_P (dC, dI) vwCl [(p_this, .inr (6, [.int d_dishes, .int d_speakers, .ref p_speaker, .int d_noises, .ref p_noise, .int d_askers, .ref p_asker, .ref p_st, .ref p_images, .ref p_isKept, .long d_trace, .ref p_text, .int d_texted, .int d_cursor, .int d_start, .int d_token, .int d_number, .long d_word, .int d_isWrong, .int d_saidDishes, .ref p_saidMount, .int d_saidSpeakers, .ref p_saidSpeaker, .int d_saidNoises, .ref p_saidNoise, .int d_saidAskers, .ref p_saidAsker, .ref p_room, .int d_couldBe, .int d_couldHere])), (p_asker, .inl (cI, 10, .inl d_asker))] H := hP.sub [0, 1] rfl
          have hDc : va_D A [(p_this, .inr (6, [.int d_dishes, .int d_speakers, .ref p_speaker, .int d_noises, .ref p_noise, .int d_askers, .ref p_asker, .ref p_st, .ref p_images, .ref p_isKept, .long d_trace, .ref p_text, .int d_texted, .int d_cursor, .int d_start, .int d_token, .int d_number, .long d_word, .int d_isWrong, .int d_saidDishes, .ref p_saidMount, .int d_saidSpeakers, .ref p_saidSpeaker, .int d_saidNoises, .ref p_saidNoise, .int d_saidAskers, .ref p_saidAsker, .ref p_room, .int d_couldBe, .int d_couldHere])), (p_asker, .inl (cI, 10, .inl d_asker))] := hD.sub [0, 1] (by decide) rfl
          have hFc := va_free (wc := [(p_this, .inr (6, [.int d_dishes, .int d_speakers, .ref p_speaker, .int d_noises, .ref p_noise, .int d_askers, .ref p_asker, .ref p_st, .ref p_images, .ref p_isKept, .long d_trace, .ref p_text, .int d_texted, .int d_cursor, .int d_start, .int d_token, .int d_number, .long d_word, .int d_isWrong, .int d_saidDishes, .ref p_saidMount, .int d_saidSpeakers, .ref p_saidSpeaker, .int d_saidNoises, .ref p_saidNoise, .int d_saidAskers, .ref p_saidAsker, .ref p_room, .int d_couldBe, .int d_couldHere])), (p_asker, .inl (cI, 10, .inl d_asker))]) hD hS hA [0, 1] rfl
          refine va_calli (va_runV (As := [.int x4_81]) (rest := []) ⟨hx, hb, hml, hown, hts⟩ (c_X6_sureOf l dC dI cI cZ H.size p_asker p_images p_isKept p_noise p_room p_saidAsker p_saidMount p_saidNoise p_saidSpeaker p_speaker p_st p_text p_this d_dishes d_speakers d_noises d_askers d_trace d_texted d_cursor d_start d_token d_number d_word d_isWrong d_saidDishes d_saidSpeakers d_saidNoises d_saidAskers d_couldBe d_couldHere d_asker x4_81 q88 hq88) (cwV 1 hts gX6_best_X6_sureOf rfl rfl rfl (by decide +kernel) ⟨Nat.le_of_ble_eq_true rfl, Nat.le_of_ble_eq_true rfl⟩) ⟨fun a U g mk q => ⟨q.1, PC.mv q.2⟩, va_recv hK hP (ci := 6) (q0 := 0) rfl rfl, fun U hU hW => ⟨rfl, PC.of hU hW hPc hK hDc hN⟩⟩ rfl rfl hl.1 rfl (lv_room (Nat.le_of_ble_eq_true rfl)) dX6_best_88 ⟨Nat.zero_le _, Nat.zero_le _⟩) hS (fun q _ h => hFc q h) hFc (fun r_88 u t H1 locs ht hvm hw hB hz1 hk1 hS => ?_)
          obtain ⟨hP1, hD1⟩ := hB
          try dsimp only at hw
          rw [hw]
          rw [ht] at hP1
          have hP : va_P (dC, dI) vwCl [(p_this, .inr (6, [.int d_dishes, .int d_speakers, .ref p_speaker, .int d_noises, .ref p_noise, .int d_askers, .ref p_asker, .ref p_st, .ref p_images, .ref p_isKept, .long d_trace, .ref p_text, .int d_texted, .int d_cursor, .int d_start, .int d_token, .int d_number, .long d_word, .int d_isWrong, .int d_saidDishes, .ref p_saidMount, .int d_saidSpeakers, .ref p_saidSpeaker, .int d_saidNoises, .ref p_saidNoise, .int d_saidAskers, .ref p_saidAsker, .ref p_room, .int d_couldBe, .int d_couldHere])), (p_asker, .inl (cI, 10, .inl d_asker)), (p_room, .inl (cI, 8, .inl q22)), (p_st, .inl (cI, 104, .inl d_st))] H1 := join_ro hP hD [0, 1] rfl hk1 hP1
          clear hPc hDc hFc hk1 hz1 hP1 hD1 ht hvm
          generalize H1 = H at hP hS ⊢
          refine lv_goto (tgt := 96) hx hb dX6_best_91 (by decide) ?_
          have hrun := Option.some.inj hrun
          subst hrun
          rw [hQ]
          exact W.iret (v := q88) hx hb hr (fun t ht hW => ⟨⟨q88, (), rfl, rfl, by rw [ht]; exact hP, hD⟩, hS.F ht⟩) hS.2.2 dX6_best_96
      have L31 : ∀ (n9_31 : Nat) (x4_31 : Int32) (x5_31 : Int32) (H : Heap) (locs : List Loc), va_P (dC, dI) vwCl [(p_this, .inr (6, [.int d_dishes, .int d_speakers, .ref p_speaker, .int d_noises, .ref p_noise, .int d_askers, .ref p_asker, .ref p_st, .ref p_images, .ref p_isKept, .long d_trace, .ref p_text, .int d_texted, .int d_cursor, .int d_start, .int d_token, .int d_number, .long d_word, .int d_isWrong, .int d_saidDishes, .ref p_saidMount, .int d_saidSpeakers, .ref p_saidSpeaker, .int d_saidNoises, .ref p_saidNoise, .int d_saidAskers, .ref p_saidAsker, .ref p_room, .int d_couldBe, .int d_couldHere])), (p_asker, .inl (cI, 10, .inl d_asker)), (p_room, .inl (cI, 8, .inl q22)), (p_st, .inl (cI, 104, .inl d_st))] H → va_D A [(p_this, .inr (6, [.int d_dishes, .int d_speakers, .ref p_speaker, .int d_noises, .ref p_noise, .int d_askers, .ref p_asker, .ref p_st, .ref p_images, .ref p_isKept, .long d_trace, .ref p_text, .int d_texted, .int d_cursor, .int d_start, .int d_token, .int d_number, .long d_word, .int d_isWrong, .int d_saidDishes, .ref p_saidMount, .int d_saidSpeakers, .ref p_saidSpeaker, .int d_saidNoises, .ref p_saidNoise, .int d_saidAskers, .ref p_saidAsker, .ref p_room, .int d_couldBe, .int d_couldHere])), (p_asker, .inl (cI, 10, .inl d_asker)), (p_room, .inl (cI, 8, .inl q22)), (p_st, .inl (cI, 104, .inl d_st))] → va_S A s.heap H locs → ∀ ls : Array Slot, lv_has ls 6 [(0, .ref p_this), (3, .int x3), (4, .int x4_31), (5, .int x5_31)] → f_X6_best_L31 (f_X6_best_X81 x3 d_askers d_asker q22) x3 d_askers d_asker q22 n9_31 x4_31 x5_31 = some out → W p l e ({ frames := 3, cells := 0, slots := 0, locals := 63 } : Room) s m ([.ref p_this, .int x1, .int x2, .int x3] : List Value).toArray below meth c H locs 0 0 Q (F0 m 31 ls []) := by
        intro n9_31
        induction n9_31 with
        | zero =>
          intro x4_31 x5_31 H locs hP hD hS ls hl hrun
          rw [f_X6_best_L31] at hrun
          cases hrun
        | succ n9_31 ih31 =>
          intro x4_31 x5_31 H locs hP hD hS ls hl hrun
          rw [f_X6_best_L31] at hrun
          refine lv_iload hx hb dX6_best_31 (lv_at hl 3 rfl) ?_
          refine lv_iconst (v := 1) hx hb dX6_best_33 (by decide) ?_
          refine lv_aload_n hx hb dX6_best_34 rfl (lv_at hl 0 rfl) ?_
          refine va_get (D := (dC, dI)) (ci := 6) (v := .int d_askers) (C := RX6) (T := TX6) (N := 30) hx hb hts iwX6 hown hK hP 0 rfl rfl 5 (by decide) (hts (.fieldLink RX6 55 "SkyListenersModel" "askers" "I") (by decide +kernel)) (fun _ h9 => h9) rfl dX6_best_35 ?_
          refine lv_ishl hx hb dX6_best_38 ?_
          refine lv_icmp_ge (tgt := 81) hx hb dX6_best_39 (by decide) (fun c_39 => ?_) (fun c_39 => ?_)
          · rw [if_pos c_39] at hrun
            exact X81 x4_31 H locs hP hD hS ls (lv_sub hl [0, 1, 2] rfl) hrun
          · rw [if_neg c_39] at hrun
            refine lv_aload_n hx hb dX6_best_42 rfl (lv_at hl 0 rfl) ?_
            refine lv_iload hx hb dX6_best_43 (lv_at hl 3 rfl) ?_
            obtain ⟨q45, hq45, hrun⟩ := bind_out hrun
            have hPc : va_P (dC, dI) vwCl [(p_this, .inr (6, [.int d_dishes, .int d_speakers, .ref p_speaker, .int d_noises, .ref p_noise, .int d_askers, .ref p_asker, .ref p_st, .ref p_images, .ref p_isKept, .long d_trace, .ref p_text, .int d_texted, .int d_cursor, .int d_start, .int d_token, .int d_number, .long d_word, .int d_isWrong, .int d_saidDishes, .ref p_saidMount, .int d_saidSpeakers, .ref p_saidSpeaker, .int d_saidNoises, .ref p_saidNoise, .int d_saidAskers, .ref p_saidAsker, .ref p_room, .int d_couldBe, .int d_couldHere])), (p_asker, .inl (cI, 10, .inl d_asker)), (p_room, .inl (cI, 8, .inl q22))] H := hP.sub [0, 1, 2] rfl
            have hDc : va_D A [(p_this, .inr (6, [.int d_dishes, .int d_speakers, .ref p_speaker, .int d_noises, .ref p_noise, .int d_askers, .ref p_asker, .ref p_st, .ref p_images, .ref p_isKept, .long d_trace, .ref p_text, .int d_texted, .int d_cursor, .int d_start, .int d_token, .int d_number, .long d_word, .int d_isWrong, .int d_saidDishes, .ref p_saidMount, .int d_saidSpeakers, .ref p_saidSpeaker, .int d_saidNoises, .ref p_saidNoise, .int d_saidAskers, .ref p_saidAsker, .ref p_room, .int d_couldBe, .int d_couldHere])), (p_asker, .inl (cI, 10, .inl d_asker)), (p_room, .inl (cI, 8, .inl q22))] := hD.sub [0, 1, 2] (by decide) rfl
            have hFc := va_free (wc := [(p_this, .inr (6, [.int d_dishes, .int d_speakers, .ref p_speaker, .int d_noises, .ref p_noise, .int d_askers, .ref p_asker, .ref p_st, .ref p_images, .ref p_isKept, .long d_trace, .ref p_text, .int d_texted, .int d_cursor, .int d_start, .int d_token, .int d_number, .long d_word, .int d_isWrong, .int d_saidDishes, .ref p_saidMount, .int d_saidSpeakers, .ref p_saidSpeaker, .int d_saidNoises, .ref p_saidNoise, .int d_saidAskers, .ref p_saidAsker, .ref p_room, .int d_couldBe, .int d_couldHere])), (p_asker, .inl (cI, 10, .inl d_asker)), (p_room, .inl (cI, 8, .inl q22))]) hD hS hA [0, 1, 2] rfl
            refine va_calli (va_runV (As := [.int x5_31]) (rest := []) ⟨hx, hb, hml, hown, hts⟩ (c_X6_isRoomFor l dC dI cI cZ H.size p_asker p_images p_isKept p_noise p_room p_saidAsker p_saidMount p_saidNoise p_saidSpeaker p_speaker p_st p_text p_this d_dishes d_speakers d_noises d_askers d_trace d_texted d_cursor d_start d_token d_number d_word d_isWrong d_saidDishes d_saidSpeakers d_saidNoises d_saidAskers d_couldBe d_couldHere d_asker q22 x5_31 q45 hq45) (cwV 1 hts gX6_best_X6_isRoomFor rfl rfl rfl (by decide +kernel) ⟨Nat.le_of_ble_eq_true rfl, Nat.le_of_ble_eq_true rfl⟩) ⟨fun a U g mk q => ⟨q.1, PC.mv q.2⟩, va_recv hK hP (ci := 6) (q0 := 0) rfl rfl, fun U hU hW => ⟨rfl, PC.of hU hW hPc hK hDc hN⟩⟩ rfl rfl hl.1 rfl (lv_room (Nat.le_of_ble_eq_true rfl)) dX6_best_45 ⟨Nat.zero_le _, Nat.zero_le _⟩) hS (fun q _ h => hFc q h) hFc (fun r_45 u t H1 locs ht hvm hw hB hz1 hk1 hS => ?_)
            obtain ⟨hP1, hD1⟩ := hB
            try dsimp only at hw
            rw [hw]
            rw [ht] at hP1
            have hP : va_P (dC, dI) vwCl [(p_this, .inr (6, [.int d_dishes, .int d_speakers, .ref p_speaker, .int d_noises, .ref p_noise, .int d_askers, .ref p_asker, .ref p_st, .ref p_images, .ref p_isKept, .long d_trace, .ref p_text, .int d_texted, .int d_cursor, .int d_start, .int d_token, .int d_number, .long d_word, .int d_isWrong, .int d_saidDishes, .ref p_saidMount, .int d_saidSpeakers, .ref p_saidSpeaker, .int d_saidNoises, .ref p_saidNoise, .int d_saidAskers, .ref p_saidAsker, .ref p_room, .int d_couldBe, .int d_couldHere])), (p_asker, .inl (cI, 10, .inl d_asker)), (p_room, .inl (cI, 8, .inl q22)), (p_st, .inl (cI, 104, .inl d_st))] H1 := join_ro hP hD [0, 1, 2] rfl hk1 hP1
            clear hPc hDc hFc hk1 hz1 hP1 hD1 ht hvm
            generalize H1 = H at hP hS ⊢
            have J71 : ∀  (H : Heap) (locs : List Loc), va_P (dC, dI) vwCl [(p_this, .inr (6, [.int d_dishes, .int d_speakers, .ref p_speaker, .int d_noises, .ref p_noise, .int d_askers, .ref p_asker, .ref p_st, .ref p_images, .ref p_isKept, .long d_trace, .ref p_text, .int d_texted, .int d_cursor, .int d_start, .int d_token, .int d_number, .long d_word, .int d_isWrong, .int d_saidDishes, .ref p_saidMount, .int d_saidSpeakers, .ref p_saidSpeaker, .int d_saidNoises, .ref p_saidNoise, .int d_saidAskers, .ref p_saidAsker, .ref p_room, .int d_couldBe, .int d_couldHere])), (p_asker, .inl (cI, 10, .inl d_asker)), (p_room, .inl (cI, 8, .inl q22)), (p_st, .inl (cI, 104, .inl d_st))] H → va_D A [(p_this, .inr (6, [.int d_dishes, .int d_speakers, .ref p_speaker, .int d_noises, .ref p_noise, .int d_askers, .ref p_asker, .ref p_st, .ref p_images, .ref p_isKept, .long d_trace, .ref p_text, .int d_texted, .int d_cursor, .int d_start, .int d_token, .int d_number, .long d_word, .int d_isWrong, .int d_saidDishes, .ref p_saidMount, .int d_saidSpeakers, .ref p_saidSpeaker, .int d_saidNoises, .ref p_saidNoise, .int d_saidAskers, .ref p_saidAsker, .ref p_room, .int d_couldBe, .int d_couldHere])), (p_asker, .inl (cI, 10, .inl d_asker)), (p_room, .inl (cI, 8, .inl q22)), (p_st, .inl (cI, 104, .inl d_st))] → va_S A s.heap H locs → ∀ ls : Array Slot, lv_has ls 6 [(0, .ref p_this), (3, .int x3), (4, .int x4_31), (5, .int x5_31)] → f_X6_best_J71 (f_X6_best_L31 (f_X6_best_X81 x3 d_askers d_asker q22) x3 d_askers d_asker q22 n9_31) x3 x4_31 x5_31 d_askers d_asker q22 = some out → W p l e ({ frames := 3, cells := 0, slots := 0, locals := 63 } : Room) s m ([.ref p_this, .int x1, .int x2, .int x3] : List Value).toArray below meth c H locs 0 0 Q (F0 m 71 ls []) := by
              intro H locs hP hD hS ls hl hrun
              rw [f_X6_best_J71] at hrun
              refine lv_iload hx hb dX6_best_71 (lv_at hl 2 rfl) ?_
              refine lv_istore (lv' := [(4, .int x4_31), (0, .ref p_this), (3, .int x3), (5, .int x5_31)]) hx hb dX6_best_73 hl (by decide) rfl (fun ls hl => ?_)
              refine lv_iinc (v := x5_31 + 1) (lv' := [(5, .int (x5_31 + 1)), (4, .int x4_31), (0, .ref p_this), (3, .int x3)]) hx hb dX6_best_75 hl (k := 3) rfl rfl (by decide) rfl (fun ls hl => ?_)
              refine lv_goto (tgt := 31) hx hb dX6_best_78 (by decide) ?_
              exact ih31 x4_31 (x5_31 + 1) H locs hP hD hS ls (lv_sub hl [2, 3, 1, 0] rfl) hrun
            have J73 : ∀ (t0_73 : Int32) (H : Heap) (locs : List Loc), va_P (dC, dI) vwCl [(p_this, .inr (6, [.int d_dishes, .int d_speakers, .ref p_speaker, .int d_noises, .ref p_noise, .int d_askers, .ref p_asker, .ref p_st, .ref p_images, .ref p_isKept, .long d_trace, .ref p_text, .int d_texted, .int d_cursor, .int d_start, .int d_token, .int d_number, .long d_word, .int d_isWrong, .int d_saidDishes, .ref p_saidMount, .int d_saidSpeakers, .ref p_saidSpeaker, .int d_saidNoises, .ref p_saidNoise, .int d_saidAskers, .ref p_saidAsker, .ref p_room, .int d_couldBe, .int d_couldHere])), (p_asker, .inl (cI, 10, .inl d_asker)), (p_room, .inl (cI, 8, .inl q22)), (p_st, .inl (cI, 104, .inl d_st))] H → va_D A [(p_this, .inr (6, [.int d_dishes, .int d_speakers, .ref p_speaker, .int d_noises, .ref p_noise, .int d_askers, .ref p_asker, .ref p_st, .ref p_images, .ref p_isKept, .long d_trace, .ref p_text, .int d_texted, .int d_cursor, .int d_start, .int d_token, .int d_number, .long d_word, .int d_isWrong, .int d_saidDishes, .ref p_saidMount, .int d_saidSpeakers, .ref p_saidSpeaker, .int d_saidNoises, .ref p_saidNoise, .int d_saidAskers, .ref p_saidAsker, .ref p_room, .int d_couldBe, .int d_couldHere])), (p_asker, .inl (cI, 10, .inl d_asker)), (p_room, .inl (cI, 8, .inl q22)), (p_st, .inl (cI, 104, .inl d_st))] → va_S A s.heap H locs → ∀ ls : Array Slot, lv_has ls 6 [(0, .ref p_this), (3, .int x3), (5, .int x5_31)] → f_X6_best_J73 (f_X6_best_L31 (f_X6_best_X81 x3 d_askers d_asker q22) x3 d_askers d_asker q22 n9_31) x3 x5_31 d_askers d_asker q22 t0_73 = some out → W p l e ({ frames := 3, cells := 0, slots := 0, locals := 63 } : Room) s m ([.ref p_this, .int x1, .int x2, .int x3] : List Value).toArray below meth c H locs 0 0 Q (F0 m 73 ls [.int t0_73]) := by
              intro t0_73 H locs hP hD hS ls hl hrun
              rw [f_X6_best_J73] at hrun
              refine lv_istore (lv' := [(4, .int t0_73), (0, .ref p_this), (3, .int x3), (5, .int x5_31)]) hx hb dX6_best_73 hl (by decide) rfl (fun ls hl => ?_)
              refine lv_iinc (v := x5_31 + 1) (lv' := [(5, .int (x5_31 + 1)), (4, .int t0_73), (0, .ref p_this), (3, .int x3)]) hx hb dX6_best_75 hl (k := 3) rfl rfl (by decide) rfl (fun ls hl => ?_)
              refine lv_goto (tgt := 31) hx hb dX6_best_78 (by decide) ?_
              exact ih31 t0_73 (x5_31 + 1) H locs hP hD hS ls (lv_sub hl [2, 3, 1, 0] rfl) hrun
            refine lv_if_eq (tgt := 71) hx hb dX6_best_48 (by decide) (fun c_48 => ?_) (fun c_48 => ?_)
            · rw [if_pos c_48] at hrun
              exact J71 H locs hP hD hS ls hl hrun
            · rw [if_neg c_48] at hrun
              refine lv_aload_n hx hb dX6_best_51 rfl (lv_at hl 0 rfl) ?_
              refine lv_iload hx hb dX6_best_52 (lv_at hl 3 rfl) ?_
              obtain ⟨q54, hq54, hrun⟩ := bind_out hrun
              have hPc : va_P (dC, dI) vwCl [(p_this, .inr (6, [.int d_dishes, .int d_speakers, .ref p_speaker, .int d_noises, .ref p_noise, .int d_askers, .ref p_asker, .ref p_st, .ref p_images, .ref p_isKept, .long d_trace, .ref p_text, .int d_texted, .int d_cursor, .int d_start, .int d_token, .int d_number, .long d_word, .int d_isWrong, .int d_saidDishes, .ref p_saidMount, .int d_saidSpeakers, .ref p_saidSpeaker, .int d_saidNoises, .ref p_saidNoise, .int d_saidAskers, .ref p_saidAsker, .ref p_room, .int d_couldBe, .int d_couldHere])), (p_asker, .inl (cI, 10, .inl d_asker))] H := hP.sub [0, 1] rfl
              have hDc : va_D A [(p_this, .inr (6, [.int d_dishes, .int d_speakers, .ref p_speaker, .int d_noises, .ref p_noise, .int d_askers, .ref p_asker, .ref p_st, .ref p_images, .ref p_isKept, .long d_trace, .ref p_text, .int d_texted, .int d_cursor, .int d_start, .int d_token, .int d_number, .long d_word, .int d_isWrong, .int d_saidDishes, .ref p_saidMount, .int d_saidSpeakers, .ref p_saidSpeaker, .int d_saidNoises, .ref p_saidNoise, .int d_saidAskers, .ref p_saidAsker, .ref p_room, .int d_couldBe, .int d_couldHere])), (p_asker, .inl (cI, 10, .inl d_asker))] := hD.sub [0, 1] (by decide) rfl
              have hFc := va_free (wc := [(p_this, .inr (6, [.int d_dishes, .int d_speakers, .ref p_speaker, .int d_noises, .ref p_noise, .int d_askers, .ref p_asker, .ref p_st, .ref p_images, .ref p_isKept, .long d_trace, .ref p_text, .int d_texted, .int d_cursor, .int d_start, .int d_token, .int d_number, .long d_word, .int d_isWrong, .int d_saidDishes, .ref p_saidMount, .int d_saidSpeakers, .ref p_saidSpeaker, .int d_saidNoises, .ref p_saidNoise, .int d_saidAskers, .ref p_saidAsker, .ref p_room, .int d_couldBe, .int d_couldHere])), (p_asker, .inl (cI, 10, .inl d_asker))]) hD hS hA [0, 1] rfl
              refine va_calli (va_runV (As := [.int x5_31]) (rest := []) ⟨hx, hb, hml, hown, hts⟩ (c_X6_sureOf l dC dI cI cZ H.size p_asker p_images p_isKept p_noise p_room p_saidAsker p_saidMount p_saidNoise p_saidSpeaker p_speaker p_st p_text p_this d_dishes d_speakers d_noises d_askers d_trace d_texted d_cursor d_start d_token d_number d_word d_isWrong d_saidDishes d_saidSpeakers d_saidNoises d_saidAskers d_couldBe d_couldHere d_asker x5_31 q54 hq54) (cwV 1 hts gX6_best_X6_sureOf rfl rfl rfl (by decide +kernel) ⟨Nat.le_of_ble_eq_true rfl, Nat.le_of_ble_eq_true rfl⟩) ⟨fun a U g mk q => ⟨q.1, PC.mv q.2⟩, va_recv hK hP (ci := 6) (q0 := 0) rfl rfl, fun U hU hW => ⟨rfl, PC.of hU hW hPc hK hDc hN⟩⟩ rfl rfl hl.1 rfl (lv_room (Nat.le_of_ble_eq_true rfl)) dX6_best_54 ⟨Nat.zero_le _, Nat.zero_le _⟩) hS (fun q _ h => hFc q h) hFc (fun r_54 u t H1 locs ht hvm hw hB hz1 hk1 hS => ?_)
              obtain ⟨hP1, hD1⟩ := hB
              try dsimp only at hw
              rw [hw]
              rw [ht] at hP1
              have hP : va_P (dC, dI) vwCl [(p_this, .inr (6, [.int d_dishes, .int d_speakers, .ref p_speaker, .int d_noises, .ref p_noise, .int d_askers, .ref p_asker, .ref p_st, .ref p_images, .ref p_isKept, .long d_trace, .ref p_text, .int d_texted, .int d_cursor, .int d_start, .int d_token, .int d_number, .long d_word, .int d_isWrong, .int d_saidDishes, .ref p_saidMount, .int d_saidSpeakers, .ref p_saidSpeaker, .int d_saidNoises, .ref p_saidNoise, .int d_saidAskers, .ref p_saidAsker, .ref p_room, .int d_couldBe, .int d_couldHere])), (p_asker, .inl (cI, 10, .inl d_asker)), (p_room, .inl (cI, 8, .inl q22)), (p_st, .inl (cI, 104, .inl d_st))] H1 := join_ro hP hD [0, 1] rfl hk1 hP1
              clear hPc hDc hFc hk1 hz1 hP1 hD1 ht hvm
              generalize H1 = H at hP hS ⊢
              refine lv_aload_n hx hb dX6_best_57 rfl (lv_at hl 0 rfl) ?_
              refine lv_iload hx hb dX6_best_58 (lv_at hl 2 rfl) ?_
              obtain ⟨q60, hq60, hrun⟩ := bind_out hrun
              have hPc : va_P (dC, dI) vwCl [(p_this, .inr (6, [.int d_dishes, .int d_speakers, .ref p_speaker, .int d_noises, .ref p_noise, .int d_askers, .ref p_asker, .ref p_st, .ref p_images, .ref p_isKept, .long d_trace, .ref p_text, .int d_texted, .int d_cursor, .int d_start, .int d_token, .int d_number, .long d_word, .int d_isWrong, .int d_saidDishes, .ref p_saidMount, .int d_saidSpeakers, .ref p_saidSpeaker, .int d_saidNoises, .ref p_saidNoise, .int d_saidAskers, .ref p_saidAsker, .ref p_room, .int d_couldBe, .int d_couldHere])), (p_asker, .inl (cI, 10, .inl d_asker))] H := hP.sub [0, 1] rfl
              have hDc : va_D A [(p_this, .inr (6, [.int d_dishes, .int d_speakers, .ref p_speaker, .int d_noises, .ref p_noise, .int d_askers, .ref p_asker, .ref p_st, .ref p_images, .ref p_isKept, .long d_trace, .ref p_text, .int d_texted, .int d_cursor, .int d_start, .int d_token, .int d_number, .long d_word, .int d_isWrong, .int d_saidDishes, .ref p_saidMount, .int d_saidSpeakers, .ref p_saidSpeaker, .int d_saidNoises, .ref p_saidNoise, .int d_saidAskers, .ref p_saidAsker, .ref p_room, .int d_couldBe, .int d_couldHere])), (p_asker, .inl (cI, 10, .inl d_asker))] := hD.sub [0, 1] (by decide) rfl
              have hFc := va_free (wc := [(p_this, .inr (6, [.int d_dishes, .int d_speakers, .ref p_speaker, .int d_noises, .ref p_noise, .int d_askers, .ref p_asker, .ref p_st, .ref p_images, .ref p_isKept, .long d_trace, .ref p_text, .int d_texted, .int d_cursor, .int d_start, .int d_token, .int d_number, .long d_word, .int d_isWrong, .int d_saidDishes, .ref p_saidMount, .int d_saidSpeakers, .ref p_saidSpeaker, .int d_saidNoises, .ref p_saidNoise, .int d_saidAskers, .ref p_saidAsker, .ref p_room, .int d_couldBe, .int d_couldHere])), (p_asker, .inl (cI, 10, .inl d_asker))]) hD hS hA [0, 1] rfl
              refine va_calli (va_runV (As := [.int x4_31]) (rest := [.int q54]) ⟨hx, hb, hml, hown, hts⟩ (c_X6_sureOf l dC dI cI cZ H.size p_asker p_images p_isKept p_noise p_room p_saidAsker p_saidMount p_saidNoise p_saidSpeaker p_speaker p_st p_text p_this d_dishes d_speakers d_noises d_askers d_trace d_texted d_cursor d_start d_token d_number d_word d_isWrong d_saidDishes d_saidSpeakers d_saidNoises d_saidAskers d_couldBe d_couldHere d_asker x4_31 q60 hq60) (cwV 1 hts gX6_best_X6_sureOf rfl rfl rfl (by decide +kernel) ⟨Nat.le_of_ble_eq_true rfl, Nat.le_of_ble_eq_true rfl⟩) ⟨fun a U g mk q => ⟨q.1, PC.mv q.2⟩, va_recv hK hP (ci := 6) (q0 := 0) rfl rfl, fun U hU hW => ⟨rfl, PC.of hU hW hPc hK hDc hN⟩⟩ rfl rfl hl.1 rfl (lv_room (Nat.le_of_ble_eq_true rfl)) dX6_best_60 ⟨Nat.zero_le _, Nat.zero_le _⟩) hS (fun q _ h => hFc q h) hFc (fun r_60 u t H1 locs ht hvm hw hB hz1 hk1 hS => ?_)
              obtain ⟨hP1, hD1⟩ := hB
              try dsimp only at hw
              rw [hw]
              rw [ht] at hP1
              have hP : va_P (dC, dI) vwCl [(p_this, .inr (6, [.int d_dishes, .int d_speakers, .ref p_speaker, .int d_noises, .ref p_noise, .int d_askers, .ref p_asker, .ref p_st, .ref p_images, .ref p_isKept, .long d_trace, .ref p_text, .int d_texted, .int d_cursor, .int d_start, .int d_token, .int d_number, .long d_word, .int d_isWrong, .int d_saidDishes, .ref p_saidMount, .int d_saidSpeakers, .ref p_saidSpeaker, .int d_saidNoises, .ref p_saidNoise, .int d_saidAskers, .ref p_saidAsker, .ref p_room, .int d_couldBe, .int d_couldHere])), (p_asker, .inl (cI, 10, .inl d_asker)), (p_room, .inl (cI, 8, .inl q22)), (p_st, .inl (cI, 104, .inl d_st))] H1 := join_ro hP hD [0, 1] rfl hk1 hP1
              clear hPc hDc hFc hk1 hz1 hP1 hD1 ht hvm
              generalize H1 = H at hP hS ⊢
              refine lv_icmp_le (tgt := 71) hx hb dX6_best_63 (by decide) (fun c_63 => ?_) (fun c_63 => ?_)
              · rw [if_pos c_63] at hrun
                exact J71 H locs hP hD hS ls hl hrun
              · rw [if_neg c_63] at hrun
                refine lv_iload hx hb dX6_best_66 (lv_at hl 3 rfl) ?_
                refine lv_goto (tgt := 73) hx hb dX6_best_68 (by decide) ?_
                exact J73 x5_31 H locs hP hD hS ls (lv_sub hl [0, 1, 3] rfl) hrun
      exact L31 FU 0 1 H locs hP hD hS ls (lv_sub hl [2, 5, 1, 0] rfl) hrun
    · rw [if_pos c_14] at hrun
      refine lv_iconst (v := (-1)) hx hb dX6_best_17 (by decide) ?_
      have hrun := Option.some.inj hrun
      subst hrun
      rw [hQ]
      exact W.iret (v := (-1)) hx hb hr (fun t ht hW => ⟨⟨(-1), (), rfl, rfl, by rw [ht]; exact hP, hD⟩, hS.F ht⟩) hS.2.2 dX6_best_18
-- SkyListenersModel.chance
def f_X6_chance_J165 (x6 : Int32) (d_room : Nat → Int32) (t0 : Int32) : Option (Int32 × (Nat → Int32)) := (if x6 = 0 then none else (some (t0 / x6, d_room)))
def f_X6_chance_X151 (x3 : Int32) (x4 : Int32) (x5 : Int32) (d_room : Nat → Int32) (x6 : Int32) : Option (Int32 × (Nat → Int32)) := (if x3 = 0 then (f_X6_chance_J165 x6 d_room (x5 - x4)) else (f_X6_chance_J165 x6 d_room x5))
def f_X6_chance_L128 (K151 : Int32 → Option (Int32 × (Nat → Int32))) (x3 : Int32) (x4 : Int32) (x5 : Int32) (d_room : Nat → Int32) : Nat → Int32 → Int32 → Option (Int32 × (Nat → Int32))
  | 0, _, _ => none
  | n9 + 1, x6, x7 => (if x7 ≤ 0 then (K151 x6) else (if x7 = 0 then none else (f_X6_chance_L128 K151 x3 x4 x5 d_room n9 x7 (x6 - x6 / x7 * x7))))
def f_X6_chance_X117 (x3 : Int32) (d_room : Nat → Int32) (x4 : Int32) (x5 : Int32) : Option (Int32 × (Nat → Int32)) := (f_X6_chance_L128 (f_X6_chance_X151 x3 x4 x5 d_room) x3 x4 x5 d_room FU (x5 - x4) x5)
def f_X6_chance_J108 (K34 : Int32 → Int32 → Int32 → Option (Int32 × (Nat → Int32))) (x3 : Int32) (x4 : Int32) (x6 : Int32) (t0 : Int32) (d_askers : Int32) (d_asker : Nat → Int32) (d_room : Nat → Int32) (t1 : Int32) : Option (Int32 × (Nat → Int32)) := (K34 x4 (t0 * t1) (x6 + 1))
def f_X6_chance_J92 (K34 : Int32 → Int32 → Int32 → Option (Int32 × (Nat → Int32))) (x3 : Int32) (x5 : Int32) (x6 : Int32) (x7 : Int32) (t0 : Int32) (d_askers : Int32) (d_asker : Nat → Int32) (d_room : Nat → Int32) (t1 : Int32) : Option (Int32 × (Nat → Int32)) := (if x7 = 0 then (f_X6_chance_J108 K34 x3 (t0 * t1) x6 x5 d_askers d_asker d_room 1) else (f_X6_chance_J108 K34 x3 (t0 * t1) x6 x5 d_askers d_asker d_room 10))
def f_X6_chance_J65 (K34 : Int32 → Int32 → Int32 → Option (Int32 × (Nat → Int32))) (x3 : Int32) (x4 : Int32) (x5 : Int32) (x6 : Int32) (d_askers : Int32) (d_asker : Nat → Int32) (d_room : Nat → Int32) (t0 : Int32) : Option (Int32 × (Nat → Int32)) := (if t0 = 0 then (f_X6_chance_J92 K34 x3 x5 x6 t0 x4 d_askers d_asker d_room 1) else (if ((2 * x6) + 1) < 0 ∨ 10 ≤ ((2 * x6) + 1).toNatClampNeg then none else (f_X6_chance_J92 K34 x3 x5 x6 t0 x4 d_askers d_asker d_room (10 - (d_asker ((2 * x6) + 1).toNatClampNeg)))))
def f_X6_chance_L34 (K117 : Int32 → Int32 → Option (Int32 × (Nat → Int32))) (x3 : Int32) (d_askers : Int32) (d_asker : Nat → Int32) (d_room : Nat → Int32) : Nat → Int32 → Int32 → Int32 → Option (Int32 × (Nat → Int32))
  | 0, _, _, _ => none
  | n9 + 1, x4, x5, x6 => (if d_askers ≤ x6 then (K117 x4 x5) else (if (2 * x6) < 0 ∨ 10 ≤ (2 * x6).toNatClampNeg then none else (if (d_asker (2 * x6).toNatClampNeg) < 0 ∨ 8 ≤ (d_asker (2 * x6).toNatClampNeg).toNatClampNeg then none else (if (d_room (d_asker (2 * x6).toNatClampNeg).toNatClampNeg) ≤ 0 then (f_X6_chance_J65 (f_X6_chance_L34 K117 x3 d_askers d_asker d_room n9) x3 x4 x5 x6 d_askers d_asker d_room 0) else (f_X6_chance_J65 (f_X6_chance_L34 K117 x3 d_askers d_asker d_room n9) x3 x4 x5 x6 d_askers d_asker d_room 1)))))
def f_X6_chance (d_dishes : Int32) (d_askers : Int32) (d_asker : Nat → Int32) (d_room : Nat → Int32) (d_st : Nat → Int32) (x1 : Int32) (x2 : Int32) (x3 : Int32) : Option (Int32 × (Nat → Int32)) := (if (f_X6_areHours x1 x2) = 0 then (some ((-1), d_room)) else (if (f_X6_in x3 0 1) = 0 then (some ((-1), d_room)) else ((f_X6_findRoom d_dishes d_room d_st x1 x2).bind fun q22 => (f_X6_chance_L34 (f_X6_chance_X117 x3 q22) x3 d_askers d_asker q22 FU 1 1 0))))
set_option maxHeartbeats 4000000 in
set_option maxRecDepth 100000 in
theorem c_X6_chance (l : Launch) (dC : Nat → ClassId) (dI : Nat → Nat → Nat) (cI cZ : ClassId) (sz : Nat) (p_asker p_images p_isKept p_noise p_room p_saidAsker p_saidMount p_saidNoise p_saidSpeaker p_speaker p_st p_text p_this : Nat) (d_dishes : Int32) (d_speakers : Int32) (d_noises : Int32) (d_askers : Int32) (d_trace : Int64) (d_texted : Int32) (d_cursor : Int32) (d_start : Int32) (d_token : Int32) (d_number : Int32) (d_word : Int64) (d_isWrong : Int32) (d_saidDishes : Int32) (d_saidSpeakers : Int32) (d_saidNoises : Int32) (d_saidAskers : Int32) (d_couldBe : Int32) (d_couldHere : Int32) (d_asker : Nat → Int32) (d_room : Nat → Int32) (d_st : Nat → Int32) (x1 : Int32) (x2 : Int32) (x3 : Int32) (out : Int32 × (Nat → Int32)) (hrun : f_X6_chance d_dishes d_askers d_asker d_room d_st x1 x2 x3 = some out) : Met l yX6_chance wsX6_chance ({ frames := 3, cells := 0, slots := 0, locals := 63 } : Room) (va_Pc [.ref p_this, .int x1, .int x2, .int x3] (PC dC dI cI cZ sz ([(p_this, .inr (6, [.int d_dishes, .int d_speakers, .ref p_speaker, .int d_noises, .ref p_noise, .int d_askers, .ref p_asker, .ref p_st, .ref p_images, .ref p_isKept, .long d_trace, .ref p_text, .int d_texted, .int d_cursor, .int d_start, .int d_token, .int d_number, .long d_word, .int d_isWrong, .int d_saidDishes, .ref p_saidMount, .int d_saidSpeakers, .ref p_saidSpeaker, .int d_saidNoises, .ref p_saidNoise, .int d_saidAskers, .ref p_saidAsker, .ref p_room, .int d_couldBe, .int d_couldHere])), (p_asker, .inl (cI, 10, .inl d_asker)), (p_room, .inl (cI, 8, .inl d_room)), (p_st, .inl (cI, 104, .inl d_st))] : va_W))) (va_Qi (fun r (_ : Unit) => r = out.1) (fun _ t => va_P (dC, dI) vwCl [(p_this, .inr (6, [.int d_dishes, .int d_speakers, .ref p_speaker, .int d_noises, .ref p_noise, .int d_askers, .ref p_asker, .ref p_st, .ref p_images, .ref p_isKept, .long d_trace, .ref p_text, .int d_texted, .int d_cursor, .int d_start, .int d_token, .int d_number, .long d_word, .int d_isWrong, .int d_saidDishes, .ref p_saidMount, .int d_saidSpeakers, .ref p_saidSpeaker, .int d_saidNoises, .ref p_saidNoise, .int d_saidAskers, .ref p_saidAsker, .ref p_room, .int d_couldBe, .int d_couldHere])), (p_asker, .inl (cI, 10, .inl d_asker)), (p_room, .inl (cI, 8, .inl out.2)), (p_st, .inl (cI, 104, .inl d_st))] t.heap ∧ va_D (va_A ([(p_this, .inr (6, [.int d_dishes, .int d_speakers, .ref p_speaker, .int d_noises, .ref p_noise, .int d_askers, .ref p_asker, .ref p_st, .ref p_images, .ref p_isKept, .long d_trace, .ref p_text, .int d_texted, .int d_cursor, .int d_start, .int d_token, .int d_number, .long d_word, .int d_isWrong, .int d_saidDishes, .ref p_saidMount, .int d_saidSpeakers, .ref p_saidSpeaker, .int d_saidNoises, .ref p_saidNoise, .int d_saidAskers, .ref p_saidAsker, .ref p_room, .int d_couldBe, .int d_couldHere])), (p_asker, .inl (cI, 10, .inl d_asker)), (p_room, .inl (cI, 8, .inl d_room)), (p_st, .inl (cI, 104, .inl d_st))] : va_W) sz) [(p_this, .inr (6, [.int d_dishes, .int d_speakers, .ref p_speaker, .int d_noises, .ref p_noise, .int d_askers, .ref p_asker, .ref p_st, .ref p_images, .ref p_isKept, .long d_trace, .ref p_text, .int d_texted, .int d_cursor, .int d_start, .int d_token, .int d_number, .long d_word, .int d_isWrong, .int d_saidDishes, .ref p_saidMount, .int d_saidSpeakers, .ref p_saidSpeaker, .int d_saidNoises, .ref p_saidNoise, .int d_saidAskers, .ref p_saidAsker, .ref p_room, .int d_couldBe, .int d_couldHere])), (p_asker, .inl (cI, 10, .inl d_asker)), (p_room, .inl (cI, 8, .inl out.2)), (p_st, .inl (cI, 104, .inl d_st))]) (va_A ([(p_this, .inr (6, [.int d_dishes, .int d_speakers, .ref p_speaker, .int d_noises, .ref p_noise, .int d_askers, .ref p_asker, .ref p_st, .ref p_images, .ref p_isKept, .long d_trace, .ref p_text, .int d_texted, .int d_cursor, .int d_start, .int d_token, .int d_number, .long d_word, .int d_isWrong, .int d_saidDishes, .ref p_saidMount, .int d_saidSpeakers, .ref p_saidSpeaker, .int d_saidNoises, .ref p_saidNoise, .int d_saidAskers, .ref p_saidAsker, .ref p_room, .int d_couldBe, .int d_couldHere])), (p_asker, .inl (cI, 10, .inl d_asker)), (p_room, .inl (cI, 8, .inl d_room)), (p_st, .inl (cI, 104, .inl d_st))] : va_W) sz)) 0 0 (va_A ([(p_this, .inr (6, [.int d_dishes, .int d_speakers, .ref p_speaker, .int d_noises, .ref p_noise, .int d_askers, .ref p_asker, .ref p_st, .ref p_images, .ref p_isKept, .long d_trace, .ref p_text, .int d_texted, .int d_cursor, .int d_start, .int d_token, .int d_number, .long d_word, .int d_isWrong, .int d_saidDishes, .ref p_saidMount, .int d_saidSpeakers, .ref p_saidSpeaker, .int d_saidNoises, .ref p_saidNoise, .int d_saidAskers, .ref p_saidAsker, .ref p_room, .int d_couldBe, .int d_couldHere])), (p_asker, .inl (cI, 10, .inl d_asker)), (p_room, .inl (cI, 8, .inl d_room)), (p_st, .inl (cI, 104, .inl d_st))] : va_W) sz) := by
  refine Met.ofW (cc := cX6_chance) (maxL := 9) (ret := (some .int)) (by decide) rfl ?_
  intro p e s m args below meth c s₁ B hml hv
  obtain ⟨rfl, hsz, hP, hK, hD0, hN⟩ := hv
  have hx := B.exec
  have hb := B.bytes
  have hr := B.returns
  have hts := atoms_spec (ws := wsX6_chance) B.pre
  have hown : s.vm.findClass RX6 = some m.cls := findClass_of_methodNamed B.named
  have hlocks := B.notSynchronized
  subst hsz
  have hD := hD0.self (sz := s.heap.size)
  generalize hAe : va_A ([(p_this, .inr (6, [.int d_dishes, .int d_speakers, .ref p_speaker, .int d_noises, .ref p_noise, .int d_askers, .ref p_asker, .ref p_st, .ref p_images, .ref p_isKept, .long d_trace, .ref p_text, .int d_texted, .int d_cursor, .int d_start, .int d_token, .int d_number, .long d_word, .int d_isWrong, .int d_saidDishes, .ref p_saidMount, .int d_saidSpeakers, .ref p_saidSpeaker, .int d_saidNoises, .ref p_saidNoise, .int d_saidAskers, .ref p_saidAsker, .ref p_room, .int d_couldBe, .int d_couldHere])), (p_asker, .inl (cI, 10, .inl d_asker)), (p_room, .inl (cI, 8, .inl d_room)), (p_st, .inl (cI, 104, .inl d_st))] : va_W) s.heap.size = A at hD ⊢
  have hA : ∀ q : Nat, s.heap.size ≤ q → A q := fun q h => by rw [← hAe]; exact Or.inr h
  have hS : va_S A s.heap s.heap [] := va_S.rf
  refine W_abs (fun Q hQ => ?_)
  have hl := lv_entry ([.ref p_this, .int x1, .int x2, .int x3]) (n := 9) (Nat.le_of_ble_eq_true rfl)
  rw [lg_entry_eq]
  generalize (lg_sl ([.ref p_this, .int x1, .int x2, .int x3]) ++ List.replicate (9 - (lg_sl ([.ref p_this, .int x1, .int x2, .int x3])).length) Slot.unset).toArray = ls at hl ⊢
  have hl : lv_has ls 9 [(0, .ref p_this), (1, .int x1), (2, .int x2), (3, .int x3)] := hl
  rw [f_X6_chance] at hrun
  refine W_start (ws := [(p_this, .inr (6, [.int d_dishes, .int d_speakers, .ref p_speaker, .int d_noises, .ref p_noise, .int d_askers, .ref p_asker, .ref p_st, .ref p_images, .ref p_isKept, .long d_trace, .ref p_text, .int d_texted, .int d_cursor, .int d_start, .int d_token, .int d_number, .long d_word, .int d_isWrong, .int d_saidDishes, .ref p_saidMount, .int d_saidSpeakers, .ref p_saidSpeaker, .int d_saidNoises, .ref p_saidNoise, .int d_saidAskers, .ref p_saidAsker, .ref p_room, .int d_couldBe, .int d_couldHere])), (p_asker, .inl (cI, 10, .inl d_asker)), (p_room, .inl (cI, 8, .inl d_room)), (p_st, .inl (cI, 104, .inl d_st))]) hP hS (fun H locs hP hS => ?_)
  have iwX6 : ∀ w ∈ wsX60, w ∈ wsX6_chance := by decide +kernel
  refine lv_iload_n hx hb dX6_chance_0 rfl (lv_at hl 1 rfl) ?_
  refine lv_iload_n hx hb dX6_chance_1 rfl (lv_at hl 2 rfl) ?_
  have hPc : va_P (dC, dI) vwCl [] H := hP.sub [] rfl
  have hDc : va_D A [] := hD.sub [] (by decide) rfl
  have hFc := va_free (wc := []) hD hS hA [] rfl
  refine va_calli (va_runS (As := [.int x1, .int x2]) (rest := []) ⟨hx, hb, hml, hown, hts⟩ (c_X6_areHours l dC dI cI cZ H.size x1 x2 (f_X6_areHours x1 x2) rfl) (va_cwS 2 hts gX6_chance_X6_areHours rfl rfl rfl (by decide +kernel) ⟨Nat.le_of_ble_eq_true rfl, Nat.le_of_ble_eq_true rfl⟩) ⟨fun a U g mk q => ⟨q.1, PC.mv q.2⟩, fun U hU hW => ⟨rfl, PC.of hU hW hPc hK hDc hN⟩⟩ rfl rfl hl.1 rfl (lv_room (Nat.le_of_ble_eq_true rfl)) dX6_chance_2 ⟨Nat.zero_le _, Nat.zero_le _⟩) hS (fun q _ h => hFc q h) hFc (fun r_2 u t H1 locs ht hvm hw hB hz1 hk1 hS => ?_)
  obtain ⟨hP1, hD1⟩ := hB
  try dsimp only at hw
  rw [hw]
  rw [ht] at hP1
  have hP : va_P (dC, dI) vwCl [(p_this, .inr (6, [.int d_dishes, .int d_speakers, .ref p_speaker, .int d_noises, .ref p_noise, .int d_askers, .ref p_asker, .ref p_st, .ref p_images, .ref p_isKept, .long d_trace, .ref p_text, .int d_texted, .int d_cursor, .int d_start, .int d_token, .int d_number, .long d_word, .int d_isWrong, .int d_saidDishes, .ref p_saidMount, .int d_saidSpeakers, .ref p_saidSpeaker, .int d_saidNoises, .ref p_saidNoise, .int d_saidAskers, .ref p_saidAsker, .ref p_room, .int d_couldBe, .int d_couldHere])), (p_asker, .inl (cI, 10, .inl d_asker)), (p_room, .inl (cI, 8, .inl d_room)), (p_st, .inl (cI, 104, .inl d_st))] H1 := join_ro hP hD [] rfl hk1 hP1
  clear hPc hDc hFc hk1 hz1 hP1 hD1 ht hvm
  generalize H1 = H at hP hS ⊢
  refine lv_if_eq (tgt := 17) hx hb dX6_chance_5 (by decide) (fun c_5 => ?_) (fun c_5 => ?_)
  · rw [if_pos c_5] at hrun
    refine lv_iconst (v := (-1)) hx hb dX6_chance_17 (by decide) ?_
    have hrun := Option.some.inj hrun
    subst hrun
    rw [hQ]
    exact W.iret (v := (-1)) hx hb hr (fun t ht hW => ⟨⟨(-1), (), rfl, rfl, by rw [ht]; exact hP, hD⟩, hS.F ht⟩) hS.2.2 dX6_chance_18
  · rw [if_neg c_5] at hrun
    refine lv_iload_n hx hb dX6_chance_8 rfl (lv_at hl 3 rfl) ?_
    refine lv_iconst (v := 0) hx hb dX6_chance_9 (by decide) ?_
    refine lv_iconst (v := 1) hx hb dX6_chance_10 (by decide) ?_
    have hPc : va_P (dC, dI) vwCl [] H := hP.sub [] rfl
    have hDc : va_D A [] := hD.sub [] (by decide) rfl
    have hFc := va_free (wc := []) hD hS hA [] rfl
    refine va_calli (va_runS (As := [.int x3, .int 0, .int 1]) (rest := []) ⟨hx, hb, hml, hown, hts⟩ (c_X6_in l dC dI cI cZ H.size x3 0 1 (f_X6_in x3 0 1) rfl) (va_cwS 3 hts gX6_chance_X6_in rfl rfl rfl (by decide +kernel) ⟨Nat.le_of_ble_eq_true rfl, Nat.le_of_ble_eq_true rfl⟩) ⟨fun a U g mk q => ⟨q.1, PC.mv q.2⟩, fun U hU hW => ⟨rfl, PC.of hU hW hPc hK hDc hN⟩⟩ rfl rfl hl.1 rfl (lv_room (Nat.le_of_ble_eq_true rfl)) dX6_chance_11 ⟨Nat.zero_le _, Nat.zero_le _⟩) hS (fun q _ h => hFc q h) hFc (fun r_11 u t H1 locs ht hvm hw hB hz1 hk1 hS => ?_)
    obtain ⟨hP1, hD1⟩ := hB
    try dsimp only at hw
    rw [hw]
    rw [ht] at hP1
    have hP : va_P (dC, dI) vwCl [(p_this, .inr (6, [.int d_dishes, .int d_speakers, .ref p_speaker, .int d_noises, .ref p_noise, .int d_askers, .ref p_asker, .ref p_st, .ref p_images, .ref p_isKept, .long d_trace, .ref p_text, .int d_texted, .int d_cursor, .int d_start, .int d_token, .int d_number, .long d_word, .int d_isWrong, .int d_saidDishes, .ref p_saidMount, .int d_saidSpeakers, .ref p_saidSpeaker, .int d_saidNoises, .ref p_saidNoise, .int d_saidAskers, .ref p_saidAsker, .ref p_room, .int d_couldBe, .int d_couldHere])), (p_asker, .inl (cI, 10, .inl d_asker)), (p_room, .inl (cI, 8, .inl d_room)), (p_st, .inl (cI, 104, .inl d_st))] H1 := join_ro hP hD [] rfl hk1 hP1
    clear hPc hDc hFc hk1 hz1 hP1 hD1 ht hvm
    generalize H1 = H at hP hS ⊢
    refine lv_if_ne (tgt := 19) hx hb dX6_chance_14 (by decide) (fun c_14 => ?_) (fun c_14 => ?_)
    · rw [if_neg c_14] at hrun
      refine lv_aload_n hx hb dX6_chance_19 rfl (lv_at hl 0 rfl) ?_
      refine lv_iload_n hx hb dX6_chance_20 rfl (lv_at hl 1 rfl) ?_
      refine lv_iload_n hx hb dX6_chance_21 rfl (lv_at hl 2 rfl) ?_
      obtain ⟨q22, hq22, hrun⟩ := bind_out hrun
      have hPc : va_P (dC, dI) vwCl [(p_this, .inr (6, [.int d_dishes, .int d_speakers, .ref p_speaker, .int d_noises, .ref p_noise, .int d_askers, .ref p_asker, .ref p_st, .ref p_images, .ref p_isKept, .long d_trace, .ref p_text, .int d_texted, .int d_cursor, .int d_start, .int d_token, .int d_number, .long d_word, .int d_isWrong, .int d_saidDishes, .ref p_saidMount, .int d_saidSpeakers, .ref p_saidSpeaker, .int d_saidNoises, .ref p_saidNoise, .int d_saidAskers, .ref p_saidAsker, .ref p_room, .int d_couldBe, .int d_couldHere])), (p_room, .inl (cI, 8, .inl d_room)), (p_st, .inl (cI, 104, .inl d_st))] H := hP.sub [0, 2, 3] rfl
      have hDc : va_D A [(p_this, .inr (6, [.int d_dishes, .int d_speakers, .ref p_speaker, .int d_noises, .ref p_noise, .int d_askers, .ref p_asker, .ref p_st, .ref p_images, .ref p_isKept, .long d_trace, .ref p_text, .int d_texted, .int d_cursor, .int d_start, .int d_token, .int d_number, .long d_word, .int d_isWrong, .int d_saidDishes, .ref p_saidMount, .int d_saidSpeakers, .ref p_saidSpeaker, .int d_saidNoises, .ref p_saidNoise, .int d_saidAskers, .ref p_saidAsker, .ref p_room, .int d_couldBe, .int d_couldHere])), (p_room, .inl (cI, 8, .inl d_room)), (p_st, .inl (cI, 104, .inl d_st))] := hD.sub [0, 2, 3] (by decide) rfl
      have hFc := va_free (wc := [(p_this, .inr (6, [.int d_dishes, .int d_speakers, .ref p_speaker, .int d_noises, .ref p_noise, .int d_askers, .ref p_asker, .ref p_st, .ref p_images, .ref p_isKept, .long d_trace, .ref p_text, .int d_texted, .int d_cursor, .int d_start, .int d_token, .int d_number, .long d_word, .int d_isWrong, .int d_saidDishes, .ref p_saidMount, .int d_saidSpeakers, .ref p_saidSpeaker, .int d_saidNoises, .ref p_saidNoise, .int d_saidAskers, .ref p_saidAsker, .ref p_room, .int d_couldBe, .int d_couldHere])), (p_room, .inl (cI, 8, .inl d_room)), (p_st, .inl (cI, 104, .inl d_st))]) hD hS hA [0, 2, 3] rfl
      refine va_callv (va_runV (As := [.int x1, .int x2]) (rest := []) ⟨hx, hb, hml, hown, hts⟩ (c_X6_findRoom l dC dI cI cZ H.size p_asker p_images p_isKept p_noise p_room p_saidAsker p_saidMount p_saidNoise p_saidSpeaker p_speaker p_st p_text p_this d_dishes d_speakers d_noises d_askers d_trace d_texted d_cursor d_start d_token d_number d_word d_isWrong d_saidDishes d_saidSpeakers d_saidNoises d_saidAskers d_couldBe d_couldHere d_room d_st x1 x2 q22 hq22) (cwV 2 hts gX6_chance_X6_findRoom rfl rfl rfl (by decide +kernel) ⟨Nat.le_of_ble_eq_true rfl, Nat.le_of_ble_eq_true rfl⟩) ⟨fun a U g mk q => ⟨q.1, PC.mv q.2⟩, va_recv hK hP (ci := 6) (q0 := 0) rfl rfl, fun U hU hW => ⟨rfl, PC.of hU hW hPc hK hDc hN⟩⟩ rfl rfl hl.1 rfl (lv_room (Nat.le_of_ble_eq_true rfl)) dX6_chance_22 ⟨Nat.zero_le _, Nat.zero_le _⟩) hS (fun q _ h => hFc q h) hFc (fun u t H1 locs ht hvm hw hB hz1 hk1 hS => ?_)
      obtain ⟨hP1, hD1⟩ := hB
      rw [ht] at hP1
      obtain ⟨hP, hD⟩ := va_join (wr := [(p_asker, .inl (cI, 10, .inl d_asker))]) (w1 := [(p_this, .inr (6, [.int d_dishes, .int d_speakers, .ref p_speaker, .int d_noises, .ref p_noise, .int d_askers, .ref p_asker, .ref p_st, .ref p_images, .ref p_isKept, .long d_trace, .ref p_text, .int d_texted, .int d_cursor, .int d_start, .int d_token, .int d_number, .long d_word, .int d_isWrong, .int d_saidDishes, .ref p_saidMount, .int d_saidSpeakers, .ref p_saidSpeaker, .int d_saidNoises, .ref p_saidNoise, .int d_saidAskers, .ref p_saidAsker, .ref p_room, .int d_couldBe, .int d_couldHere])), (p_room, .inl (cI, 8, .inl q22)), (p_st, .inl (cI, 104, .inl d_st))]) hP hD [0, 2, 3] [1] rfl rfl (by decide) (by decide) hk1 hFc hP1 hD1
      have hP : va_P (dC, dI) vwCl [(p_this, .inr (6, [.int d_dishes, .int d_speakers, .ref p_speaker, .int d_noises, .ref p_noise, .int d_askers, .ref p_asker, .ref p_st, .ref p_images, .ref p_isKept, .long d_trace, .ref p_text, .int d_texted, .int d_cursor, .int d_start, .int d_token, .int d_number, .long d_word, .int d_isWrong, .int d_saidDishes, .ref p_saidMount, .int d_saidSpeakers, .ref p_saidSpeaker, .int d_saidNoises, .ref p_saidNoise, .int d_saidAskers, .ref p_saidAsker, .ref p_room, .int d_couldBe, .int d_couldHere])), (p_asker, .inl (cI, 10, .inl d_asker)), (p_room, .inl (cI, 8, .inl q22)), (p_st, .inl (cI, 104, .inl d_st))] H1 := hP.sub [1, 0, 2, 3] rfl
      have hD : va_D A [(p_this, .inr (6, [.int d_dishes, .int d_speakers, .ref p_speaker, .int d_noises, .ref p_noise, .int d_askers, .ref p_asker, .ref p_st, .ref p_images, .ref p_isKept, .long d_trace, .ref p_text, .int d_texted, .int d_cursor, .int d_start, .int d_token, .int d_number, .long d_word, .int d_isWrong, .int d_saidDishes, .ref p_saidMount, .int d_saidSpeakers, .ref p_saidSpeaker, .int d_saidNoises, .ref p_saidNoise, .int d_saidAskers, .ref p_saidAsker, .ref p_room, .int d_couldBe, .int d_couldHere])), (p_asker, .inl (cI, 10, .inl d_asker)), (p_room, .inl (cI, 8, .inl q22)), (p_st, .inl (cI, 104, .inl d_st))] := hD.sub [1, 0, 2, 3] (by decide) rfl
      clear hPc hDc hFc hk1 hz1 hP1 hD1 ht hvm
      generalize H1 = H at hP hS ⊢
      refine lv_iconst (v := 1) hx hb dX6_chance_25 (by decide) ?_
      refine lv_istore (lv' := [(4, .int 1), (0, .ref p_this), (1, .int x1), (2, .int x2), (3, .int x3)]) hx hb dX6_chance_26 hl (by decide) rfl (fun ls hl => ?_)
      refine lv_iconst (v := 1) hx hb dX6_chance_28 (by decide) ?_
      refine lv_istore (lv' := [(5, .int 1), (4, .int 1), (0, .ref p_this), (1, .int x1), (2, .int x2), (3, .int x3)]) hx hb dX6_chance_29 hl (by decide) rfl (fun ls hl => ?_)
      refine lv_iconst (v := 0) hx hb dX6_chance_31 (by decide) ?_
      refine lv_istore (lv' := [(6, .int 0), (5, .int 1), (4, .int 1), (0, .ref p_this), (1, .int x1), (2, .int x2), (3, .int x3)]) hx hb dX6_chance_32 hl (by decide) rfl (fun ls hl => ?_)
      have X117 : ∀ (x4_117 : Int32) (x5_117 : Int32) (H : Heap) (locs : List Loc), va_P (dC, dI) vwCl [(p_this, .inr (6, [.int d_dishes, .int d_speakers, .ref p_speaker, .int d_noises, .ref p_noise, .int d_askers, .ref p_asker, .ref p_st, .ref p_images, .ref p_isKept, .long d_trace, .ref p_text, .int d_texted, .int d_cursor, .int d_start, .int d_token, .int d_number, .long d_word, .int d_isWrong, .int d_saidDishes, .ref p_saidMount, .int d_saidSpeakers, .ref p_saidSpeaker, .int d_saidNoises, .ref p_saidNoise, .int d_saidAskers, .ref p_saidAsker, .ref p_room, .int d_couldBe, .int d_couldHere])), (p_asker, .inl (cI, 10, .inl d_asker)), (p_room, .inl (cI, 8, .inl q22)), (p_st, .inl (cI, 104, .inl d_st))] H → va_D A [(p_this, .inr (6, [.int d_dishes, .int d_speakers, .ref p_speaker, .int d_noises, .ref p_noise, .int d_askers, .ref p_asker, .ref p_st, .ref p_images, .ref p_isKept, .long d_trace, .ref p_text, .int d_texted, .int d_cursor, .int d_start, .int d_token, .int d_number, .long d_word, .int d_isWrong, .int d_saidDishes, .ref p_saidMount, .int d_saidSpeakers, .ref p_saidSpeaker, .int d_saidNoises, .ref p_saidNoise, .int d_saidAskers, .ref p_saidAsker, .ref p_room, .int d_couldBe, .int d_couldHere])), (p_asker, .inl (cI, 10, .inl d_asker)), (p_room, .inl (cI, 8, .inl q22)), (p_st, .inl (cI, 104, .inl d_st))] → va_S A s.heap H locs → ∀ ls : Array Slot, lv_has ls 9 [(3, .int x3), (4, .int x4_117), (5, .int x5_117)] → f_X6_chance_X117 x3 q22 x4_117 x5_117 = some out → W p l e ({ frames := 3, cells := 0, slots := 0, locals := 63 } : Room) s m ([.ref p_this, .int x1, .int x2, .int x3] : List Value).toArray below meth c H locs 0 0 Q (F0 m 117 ls []) := by
        intro x4_117 x5_117 H locs hP hD hS ls hl hrun
        rw [f_X6_chance_X117] at hrun
        refine lv_iload hx hb dX6_chance_117 (lv_at hl 2 rfl) ?_
        refine lv_iload hx hb dX6_chance_119 (lv_at hl 1 rfl) ?_
        refine lv_isub hx hb dX6_chance_121 ?_
        refine lv_istore (lv' := [(6, .int (x5_117 - x4_117)), (3, .int x3), (4, .int x4_117), (5, .int x5_117)]) hx hb dX6_chance_122 hl (by decide) rfl (fun ls hl => ?_)
        refine lv_iload hx hb dX6_chance_124 (lv_at hl 3 rfl) ?_
        refine lv_istore (lv' := [(7, .int x5_117), (6, .int (x5_117 - x4_117)), (3, .int x3), (4, .int x4_117), (5, .int x5_117)]) hx hb dX6_chance_126 hl (by decide) rfl (fun ls hl => ?_)
        have X151 : ∀ (x6_151 : Int32) (H : Heap) (locs : List Loc), va_P (dC, dI) vwCl [(p_this, .inr (6, [.int d_dishes, .int d_speakers, .ref p_speaker, .int d_noises, .ref p_noise, .int d_askers, .ref p_asker, .ref p_st, .ref p_images, .ref p_isKept, .long d_trace, .ref p_text, .int d_texted, .int d_cursor, .int d_start, .int d_token, .int d_number, .long d_word, .int d_isWrong, .int d_saidDishes, .ref p_saidMount, .int d_saidSpeakers, .ref p_saidSpeaker, .int d_saidNoises, .ref p_saidNoise, .int d_saidAskers, .ref p_saidAsker, .ref p_room, .int d_couldBe, .int d_couldHere])), (p_asker, .inl (cI, 10, .inl d_asker)), (p_room, .inl (cI, 8, .inl q22)), (p_st, .inl (cI, 104, .inl d_st))] H → va_D A [(p_this, .inr (6, [.int d_dishes, .int d_speakers, .ref p_speaker, .int d_noises, .ref p_noise, .int d_askers, .ref p_asker, .ref p_st, .ref p_images, .ref p_isKept, .long d_trace, .ref p_text, .int d_texted, .int d_cursor, .int d_start, .int d_token, .int d_number, .long d_word, .int d_isWrong, .int d_saidDishes, .ref p_saidMount, .int d_saidSpeakers, .ref p_saidSpeaker, .int d_saidNoises, .ref p_saidNoise, .int d_saidAskers, .ref p_saidAsker, .ref p_room, .int d_couldBe, .int d_couldHere])), (p_asker, .inl (cI, 10, .inl d_asker)), (p_room, .inl (cI, 8, .inl q22)), (p_st, .inl (cI, 104, .inl d_st))] → va_S A s.heap H locs → ∀ ls : Array Slot, lv_has ls 9 [(3, .int x3), (4, .int x4_117), (5, .int x5_117), (6, .int x6_151)] → f_X6_chance_X151 x3 x4_117 x5_117 q22 x6_151 = some out → W p l e ({ frames := 3, cells := 0, slots := 0, locals := 63 } : Room) s m ([.ref p_this, .int x1, .int x2, .int x3] : List Value).toArray below meth c H locs 0 0 Q (F0 m 151 ls []) := by
          intro x6_151 H locs hP hD hS ls hl hrun
          rw [f_X6_chance_X151] at hrun
          refine lv_iload_n hx hb dX6_chance_151 rfl (lv_at hl 0 rfl) ?_
          have J165 : ∀ (t0_165 : Int32) (H : Heap) (locs : List Loc), va_P (dC, dI) vwCl [(p_this, .inr (6, [.int d_dishes, .int d_speakers, .ref p_speaker, .int d_noises, .ref p_noise, .int d_askers, .ref p_asker, .ref p_st, .ref p_images, .ref p_isKept, .long d_trace, .ref p_text, .int d_texted, .int d_cursor, .int d_start, .int d_token, .int d_number, .long d_word, .int d_isWrong, .int d_saidDishes, .ref p_saidMount, .int d_saidSpeakers, .ref p_saidSpeaker, .int d_saidNoises, .ref p_saidNoise, .int d_saidAskers, .ref p_saidAsker, .ref p_room, .int d_couldBe, .int d_couldHere])), (p_asker, .inl (cI, 10, .inl d_asker)), (p_room, .inl (cI, 8, .inl q22)), (p_st, .inl (cI, 104, .inl d_st))] H → va_D A [(p_this, .inr (6, [.int d_dishes, .int d_speakers, .ref p_speaker, .int d_noises, .ref p_noise, .int d_askers, .ref p_asker, .ref p_st, .ref p_images, .ref p_isKept, .long d_trace, .ref p_text, .int d_texted, .int d_cursor, .int d_start, .int d_token, .int d_number, .long d_word, .int d_isWrong, .int d_saidDishes, .ref p_saidMount, .int d_saidSpeakers, .ref p_saidSpeaker, .int d_saidNoises, .ref p_saidNoise, .int d_saidAskers, .ref p_saidAsker, .ref p_room, .int d_couldBe, .int d_couldHere])), (p_asker, .inl (cI, 10, .inl d_asker)), (p_room, .inl (cI, 8, .inl q22)), (p_st, .inl (cI, 104, .inl d_st))] → va_S A s.heap H locs → ∀ ls : Array Slot, lv_has ls 9 [(6, .int x6_151)] → f_X6_chance_J165 x6_151 q22 t0_165 = some out → W p l e ({ frames := 3, cells := 0, slots := 0, locals := 63 } : Room) s m ([.ref p_this, .int x1, .int x2, .int x3] : List Value).toArray below meth c H locs 0 0 Q (F0 m 165 ls [.int t0_165]) := by
            intro t0_165 H locs hP hD hS ls hl hrun
            rw [f_X6_chance_J165] at hrun
            refine lv_iload hx hb dX6_chance_165 (lv_at hl 0 rfl) ?_
            rcases Classical.em (x6_151 = 0) with g_167 | g_167
            · rw [if_pos g_167] at hrun; cases hrun
            rw [if_neg g_167] at hrun
            refine lv_idiv hx hb dX6_chance_167 g_167 ?_
            have hrun := Option.some.inj hrun
            subst hrun
            rw [hQ]
            exact W.iret (v := t0_165 / x6_151) hx hb hr (fun t ht hW => ⟨⟨t0_165 / x6_151, (), rfl, rfl, by rw [ht]; exact hP, hD⟩, hS.F ht⟩) hS.2.2 dX6_chance_168
          refine lv_if_ne (tgt := 163) hx hb dX6_chance_152 (by decide) (fun c_152 => ?_) (fun c_152 => ?_)
          · rw [if_neg c_152] at hrun
            refine lv_iload hx hb dX6_chance_163 (lv_at hl 2 rfl) ?_
            exact J165 x5_117 H locs hP hD hS ls (lv_sub hl [3] rfl) hrun
          · rw [if_pos c_152] at hrun
            refine lv_iload hx hb dX6_chance_155 (lv_at hl 2 rfl) ?_
            refine lv_iload hx hb dX6_chance_157 (lv_at hl 1 rfl) ?_
            refine lv_isub hx hb dX6_chance_159 ?_
            refine lv_goto (tgt := 165) hx hb dX6_chance_160 (by decide) ?_
            exact J165 (x5_117 - x4_117) H locs hP hD hS ls (lv_sub hl [3] rfl) hrun
        have L128 : ∀ (n9_128 : Nat) (x6_128 : Int32) (x7_128 : Int32) (H : Heap) (locs : List Loc), va_P (dC, dI) vwCl [(p_this, .inr (6, [.int d_dishes, .int d_speakers, .ref p_speaker, .int d_noises, .ref p_noise, .int d_askers, .ref p_asker, .ref p_st, .ref p_images, .ref p_isKept, .long d_trace, .ref p_text, .int d_texted, .int d_cursor, .int d_start, .int d_token, .int d_number, .long d_word, .int d_isWrong, .int d_saidDishes, .ref p_saidMount, .int d_saidSpeakers, .ref p_saidSpeaker, .int d_saidNoises, .ref p_saidNoise, .int d_saidAskers, .ref p_saidAsker, .ref p_room, .int d_couldBe, .int d_couldHere])), (p_asker, .inl (cI, 10, .inl d_asker)), (p_room, .inl (cI, 8, .inl q22)), (p_st, .inl (cI, 104, .inl d_st))] H → va_D A [(p_this, .inr (6, [.int d_dishes, .int d_speakers, .ref p_speaker, .int d_noises, .ref p_noise, .int d_askers, .ref p_asker, .ref p_st, .ref p_images, .ref p_isKept, .long d_trace, .ref p_text, .int d_texted, .int d_cursor, .int d_start, .int d_token, .int d_number, .long d_word, .int d_isWrong, .int d_saidDishes, .ref p_saidMount, .int d_saidSpeakers, .ref p_saidSpeaker, .int d_saidNoises, .ref p_saidNoise, .int d_saidAskers, .ref p_saidAsker, .ref p_room, .int d_couldBe, .int d_couldHere])), (p_asker, .inl (cI, 10, .inl d_asker)), (p_room, .inl (cI, 8, .inl q22)), (p_st, .inl (cI, 104, .inl d_st))] → va_S A s.heap H locs → ∀ ls : Array Slot, lv_has ls 9 [(3, .int x3), (4, .int x4_117), (5, .int x5_117), (6, .int x6_128), (7, .int x7_128)] → f_X6_chance_L128 (f_X6_chance_X151 x3 x4_117 x5_117 q22) x3 x4_117 x5_117 q22 n9_128 x6_128 x7_128 = some out → W p l e ({ frames := 3, cells := 0, slots := 0, locals := 63 } : Room) s m ([.ref p_this, .int x1, .int x2, .int x3] : List Value).toArray below meth c H locs 0 0 Q (F0 m 128 ls []) := by
          intro n9_128
          induction n9_128 with
          | zero =>
            intro x6_128 x7_128 H locs hP hD hS ls hl hrun
            rw [f_X6_chance_L128] at hrun
            cases hrun
          | succ n9_128 ih128 =>
            intro x6_128 x7_128 H locs hP hD hS ls hl hrun
            rw [f_X6_chance_L128] at hrun
            refine lv_iload hx hb dX6_chance_128 (lv_at hl 4 rfl) ?_
            refine lv_if_le (tgt := 151) hx hb dX6_chance_130 (by decide) (fun c_130 => ?_) (fun c_130 => ?_)
            · rw [if_pos c_130] at hrun
              exact X151 x6_128 H locs hP hD hS ls (lv_sub hl [0, 1, 2, 3] rfl) hrun
            · rw [if_neg c_130] at hrun
              refine lv_iload hx hb dX6_chance_133 (lv_at hl 3 rfl) ?_
              refine lv_iload hx hb dX6_chance_135 (lv_at hl 4 rfl) ?_
              rcases Classical.em (x7_128 = 0) with g_137 | g_137
              · rw [if_pos g_137] at hrun; cases hrun
              rw [if_neg g_137] at hrun
              refine lv_irem hx hb dX6_chance_137 g_137 ?_
              refine lv_istore (lv' := [(8, .int (x6_128 - x6_128 / x7_128 * x7_128)), (3, .int x3), (4, .int x4_117), (5, .int x5_117), (6, .int x6_128), (7, .int x7_128)]) hx hb dX6_chance_138 hl (by decide) rfl (fun ls hl => ?_)
              refine lv_iload hx hb dX6_chance_140 (lv_at hl 5 rfl) ?_
              refine lv_istore (lv' := [(6, .int x7_128), (8, .int (x6_128 - x6_128 / x7_128 * x7_128)), (3, .int x3), (4, .int x4_117), (5, .int x5_117), (7, .int x7_128)]) hx hb dX6_chance_142 hl (by decide) rfl (fun ls hl => ?_)
              refine lv_iload hx hb dX6_chance_144 (lv_at hl 1 rfl) ?_
              refine lv_istore (lv' := [(7, .int (x6_128 - x6_128 / x7_128 * x7_128)), (6, .int x7_128), (8, .int (x6_128 - x6_128 / x7_128 * x7_128)), (3, .int x3), (4, .int x4_117), (5, .int x5_117)]) hx hb dX6_chance_146 hl (by decide) rfl (fun ls hl => ?_)
              refine lv_goto (tgt := 128) hx hb dX6_chance_148 (by decide) ?_
              exact ih128 x7_128 (x6_128 - x6_128 / x7_128 * x7_128) H locs hP hD hS ls (lv_sub hl [3, 4, 5, 1, 0] rfl) hrun
        exact L128 FU (x5_117 - x4_117) x5_117 H locs hP hD hS ls (lv_sub hl [2, 3, 4, 1, 0] rfl) hrun
      have L34 : ∀ (n9_34 : Nat) (x4_34 : Int32) (x5_34 : Int32) (x6_34 : Int32) (H : Heap) (locs : List Loc), va_P (dC, dI) vwCl [(p_this, .inr (6, [.int d_dishes, .int d_speakers, .ref p_speaker, .int d_noises, .ref p_noise, .int d_askers, .ref p_asker, .ref p_st, .ref p_images, .ref p_isKept, .long d_trace, .ref p_text, .int d_texted, .int d_cursor, .int d_start, .int d_token, .int d_number, .long d_word, .int d_isWrong, .int d_saidDishes, .ref p_saidMount, .int d_saidSpeakers, .ref p_saidSpeaker, .int d_saidNoises, .ref p_saidNoise, .int d_saidAskers, .ref p_saidAsker, .ref p_room, .int d_couldBe, .int d_couldHere])), (p_asker, .inl (cI, 10, .inl d_asker)), (p_room, .inl (cI, 8, .inl q22)), (p_st, .inl (cI, 104, .inl d_st))] H → va_D A [(p_this, .inr (6, [.int d_dishes, .int d_speakers, .ref p_speaker, .int d_noises, .ref p_noise, .int d_askers, .ref p_asker, .ref p_st, .ref p_images, .ref p_isKept, .long d_trace, .ref p_text, .int d_texted, .int d_cursor, .int d_start, .int d_token, .int d_number, .long d_word, .int d_isWrong, .int d_saidDishes, .ref p_saidMount, .int d_saidSpeakers, .ref p_saidSpeaker, .int d_saidNoises, .ref p_saidNoise, .int d_saidAskers, .ref p_saidAsker, .ref p_room, .int d_couldBe, .int d_couldHere])), (p_asker, .inl (cI, 10, .inl d_asker)), (p_room, .inl (cI, 8, .inl q22)), (p_st, .inl (cI, 104, .inl d_st))] → va_S A s.heap H locs → ∀ ls : Array Slot, lv_has ls 9 [(0, .ref p_this), (3, .int x3), (4, .int x4_34), (5, .int x5_34), (6, .int x6_34)] → f_X6_chance_L34 (f_X6_chance_X117 x3 q22) x3 d_askers d_asker q22 n9_34 x4_34 x5_34 x6_34 = some out → W p l e ({ frames := 3, cells := 0, slots := 0, locals := 63 } : Room) s m ([.ref p_this, .int x1, .int x2, .int x3] : List Value).toArray below meth c H locs 0 0 Q (F0 m 34 ls []) := by
        intro n9_34
        induction n9_34 with
        | zero =>
          intro x4_34 x5_34 x6_34 H locs hP hD hS ls hl hrun
          rw [f_X6_chance_L34] at hrun
          cases hrun
        | succ n9_34 ih34 =>
          intro x4_34 x5_34 x6_34 H locs hP hD hS ls hl hrun
          rw [f_X6_chance_L34] at hrun
          refine lv_iload hx hb dX6_chance_34 (lv_at hl 4 rfl) ?_
          refine lv_aload_n hx hb dX6_chance_36 rfl (lv_at hl 0 rfl) ?_
          refine va_get (D := (dC, dI)) (ci := 6) (v := .int d_askers) (C := RX6) (T := TX6) (N := 30) hx hb hts iwX6 hown hK hP 0 rfl rfl 5 (by decide) (hts (.fieldLink RX6 55 "SkyListenersModel" "askers" "I") (by decide +kernel)) (fun _ h9 => h9) rfl dX6_chance_37 ?_
          refine lv_icmp_ge (tgt := 117) hx hb dX6_chance_40 (by decide) (fun c_40 => ?_) (fun c_40 => ?_)
          · rw [if_pos c_40] at hrun
            exact X117 x4_34 x5_34 H locs hP hD hS ls (lv_sub hl [1, 2, 3] rfl) hrun
          · rw [if_neg c_40] at hrun
            refine lv_aload_n hx hb dX6_chance_43 rfl (lv_at hl 0 rfl) ?_
            refine va_get (D := (dC, dI)) (ci := 6) (v := .ref p_room) (C := RX6) (T := TX6) (N := 30) hx hb hts iwX6 hown hK hP 0 rfl rfl 27 (by decide) (hts (.fieldLink RX6 44 "SkyListenersModel" "room" "[I") (by decide +kernel)) (fun _ h9 => h9) rfl dX6_chance_44 ?_
            refine lv_aload_n hx hb dX6_chance_47 rfl (lv_at hl 0 rfl) ?_
            refine va_get (D := (dC, dI)) (ci := 6) (v := .ref p_asker) (C := RX6) (T := TX6) (N := 30) hx hb hts iwX6 hown hK hP 0 rfl rfl 6 (by decide) (hts (.fieldLink RX6 16 "SkyListenersModel" "asker" "[I") (by decide +kernel)) (fun _ h9 => h9) rfl dX6_chance_48 ?_
            refine lv_iconst (v := 2) hx hb dX6_chance_51 (by decide) ?_
            refine lv_iload hx hb dX6_chance_52 (lv_at hl 4 rfl) ?_
            refine lv_imul hx hb dX6_chance_54 ?_
            rcases Classical.em ((2 * x6_34) < 0 ∨ 10 ≤ (2 * x6_34).toNatClampNeg) with g_55 | g_55
            · rw [if_pos g_55] at hrun; cases hrun
            rw [if_neg g_55] at hrun
            refine va_iald hx hb hK hP 1 0 rfl rfl g_55 dX6_chance_55 ?_
            rcases Classical.em ((d_asker (2 * x6_34).toNatClampNeg) < 0 ∨ 8 ≤ (d_asker (2 * x6_34).toNatClampNeg).toNatClampNeg) with g_56 | g_56
            · rw [if_pos g_56] at hrun; cases hrun
            rw [if_neg g_56] at hrun
            refine va_iald hx hb hK hP 2 0 rfl rfl g_56 dX6_chance_56 ?_
            have J65 : ∀ (t0_65 : Int32) (H : Heap) (locs : List Loc), va_P (dC, dI) vwCl [(p_this, .inr (6, [.int d_dishes, .int d_speakers, .ref p_speaker, .int d_noises, .ref p_noise, .int d_askers, .ref p_asker, .ref p_st, .ref p_images, .ref p_isKept, .long d_trace, .ref p_text, .int d_texted, .int d_cursor, .int d_start, .int d_token, .int d_number, .long d_word, .int d_isWrong, .int d_saidDishes, .ref p_saidMount, .int d_saidSpeakers, .ref p_saidSpeaker, .int d_saidNoises, .ref p_saidNoise, .int d_saidAskers, .ref p_saidAsker, .ref p_room, .int d_couldBe, .int d_couldHere])), (p_asker, .inl (cI, 10, .inl d_asker)), (p_room, .inl (cI, 8, .inl q22)), (p_st, .inl (cI, 104, .inl d_st))] H → va_D A [(p_this, .inr (6, [.int d_dishes, .int d_speakers, .ref p_speaker, .int d_noises, .ref p_noise, .int d_askers, .ref p_asker, .ref p_st, .ref p_images, .ref p_isKept, .long d_trace, .ref p_text, .int d_texted, .int d_cursor, .int d_start, .int d_token, .int d_number, .long d_word, .int d_isWrong, .int d_saidDishes, .ref p_saidMount, .int d_saidSpeakers, .ref p_saidSpeaker, .int d_saidNoises, .ref p_saidNoise, .int d_saidAskers, .ref p_saidAsker, .ref p_room, .int d_couldBe, .int d_couldHere])), (p_asker, .inl (cI, 10, .inl d_asker)), (p_room, .inl (cI, 8, .inl q22)), (p_st, .inl (cI, 104, .inl d_st))] → va_S A s.heap H locs → ∀ ls : Array Slot, lv_has ls 9 [(0, .ref p_this), (3, .int x3), (4, .int x4_34), (5, .int x5_34), (6, .int x6_34)] → f_X6_chance_J65 (f_X6_chance_L34 (f_X6_chance_X117 x3 q22) x3 d_askers d_asker q22 n9_34) x3 x4_34 x5_34 x6_34 d_askers d_asker q22 t0_65 = some out → W p l e ({ frames := 3, cells := 0, slots := 0, locals := 63 } : Room) s m ([.ref p_this, .int x1, .int x2, .int x3] : List Value).toArray below meth c H locs 0 0 Q (F0 m 65 ls [.int t0_65]) := by
              intro t0_65 H locs hP hD hS ls hl hrun
              rw [f_X6_chance_J65] at hrun
              refine lv_istore (lv' := [(7, .int t0_65), (0, .ref p_this), (3, .int x3), (4, .int x4_34), (5, .int x5_34), (6, .int x6_34)]) hx hb dX6_chance_65 hl (by decide) rfl (fun ls hl => ?_)
              refine lv_iload hx hb dX6_chance_67 (lv_at hl 3 rfl) ?_
              refine lv_iload hx hb dX6_chance_69 (lv_at hl 0 rfl) ?_
              have J92 : ∀ (t1_92 : Int32) (H : Heap) (locs : List Loc), va_P (dC, dI) vwCl [(p_this, .inr (6, [.int d_dishes, .int d_speakers, .ref p_speaker, .int d_noises, .ref p_noise, .int d_askers, .ref p_asker, .ref p_st, .ref p_images, .ref p_isKept, .long d_trace, .ref p_text, .int d_texted, .int d_cursor, .int d_start, .int d_token, .int d_number, .long d_word, .int d_isWrong, .int d_saidDishes, .ref p_saidMount, .int d_saidSpeakers, .ref p_saidSpeaker, .int d_saidNoises, .ref p_saidNoise, .int d_saidAskers, .ref p_saidAsker, .ref p_room, .int d_couldBe, .int d_couldHere])), (p_asker, .inl (cI, 10, .inl d_asker)), (p_room, .inl (cI, 8, .inl q22)), (p_st, .inl (cI, 104, .inl d_st))] H → va_D A [(p_this, .inr (6, [.int d_dishes, .int d_speakers, .ref p_speaker, .int d_noises, .ref p_noise, .int d_askers, .ref p_asker, .ref p_st, .ref p_images, .ref p_isKept, .long d_trace, .ref p_text, .int d_texted, .int d_cursor, .int d_start, .int d_token, .int d_number, .long d_word, .int d_isWrong, .int d_saidDishes, .ref p_saidMount, .int d_saidSpeakers, .ref p_saidSpeaker, .int d_saidNoises, .ref p_saidNoise, .int d_saidAskers, .ref p_saidAsker, .ref p_room, .int d_couldBe, .int d_couldHere])), (p_asker, .inl (cI, 10, .inl d_asker)), (p_room, .inl (cI, 8, .inl q22)), (p_st, .inl (cI, 104, .inl d_st))] → va_S A s.heap H locs → ∀ ls : Array Slot, lv_has ls 9 [(0, .ref p_this), (3, .int x3), (5, .int x5_34), (6, .int x6_34), (7, .int t0_65)] → f_X6_chance_J92 (f_X6_chance_L34 (f_X6_chance_X117 x3 q22) x3 d_askers d_asker q22 n9_34) x3 x5_34 x6_34 t0_65 x4_34 d_askers d_asker q22 t1_92 = some out → W p l e ({ frames := 3, cells := 0, slots := 0, locals := 63 } : Room) s m ([.ref p_this, .int x1, .int x2, .int x3] : List Value).toArray below meth c H locs 0 0 Q (F0 m 92 ls [.int t1_92, .int x4_34]) := by
                intro t1_92 H locs hP hD hS ls hl hrun
                rw [f_X6_chance_J92] at hrun
                refine lv_imul hx hb dX6_chance_92 ?_
                refine lv_istore (lv' := [(4, .int (x4_34 * t1_92)), (0, .ref p_this), (3, .int x3), (5, .int x5_34), (6, .int x6_34), (7, .int t0_65)]) hx hb dX6_chance_93 hl (by decide) rfl (fun ls hl => ?_)
                refine lv_iload hx hb dX6_chance_95 (lv_at hl 3 rfl) ?_
                refine lv_iload hx hb dX6_chance_97 (lv_at hl 5 rfl) ?_
                have J108 : ∀ (t1_108 : Int32) (H : Heap) (locs : List Loc), va_P (dC, dI) vwCl [(p_this, .inr (6, [.int d_dishes, .int d_speakers, .ref p_speaker, .int d_noises, .ref p_noise, .int d_askers, .ref p_asker, .ref p_st, .ref p_images, .ref p_isKept, .long d_trace, .ref p_text, .int d_texted, .int d_cursor, .int d_start, .int d_token, .int d_number, .long d_word, .int d_isWrong, .int d_saidDishes, .ref p_saidMount, .int d_saidSpeakers, .ref p_saidSpeaker, .int d_saidNoises, .ref p_saidNoise, .int d_saidAskers, .ref p_saidAsker, .ref p_room, .int d_couldBe, .int d_couldHere])), (p_asker, .inl (cI, 10, .inl d_asker)), (p_room, .inl (cI, 8, .inl q22)), (p_st, .inl (cI, 104, .inl d_st))] H → va_D A [(p_this, .inr (6, [.int d_dishes, .int d_speakers, .ref p_speaker, .int d_noises, .ref p_noise, .int d_askers, .ref p_asker, .ref p_st, .ref p_images, .ref p_isKept, .long d_trace, .ref p_text, .int d_texted, .int d_cursor, .int d_start, .int d_token, .int d_number, .long d_word, .int d_isWrong, .int d_saidDishes, .ref p_saidMount, .int d_saidSpeakers, .ref p_saidSpeaker, .int d_saidNoises, .ref p_saidNoise, .int d_saidAskers, .ref p_saidAsker, .ref p_room, .int d_couldBe, .int d_couldHere])), (p_asker, .inl (cI, 10, .inl d_asker)), (p_room, .inl (cI, 8, .inl q22)), (p_st, .inl (cI, 104, .inl d_st))] → va_S A s.heap H locs → ∀ ls : Array Slot, lv_has ls 9 [(0, .ref p_this), (3, .int x3), (4, .int (x4_34 * t1_92)), (6, .int x6_34)] → f_X6_chance_J108 (f_X6_chance_L34 (f_X6_chance_X117 x3 q22) x3 d_askers d_asker q22 n9_34) x3 (x4_34 * t1_92) x6_34 x5_34 d_askers d_asker q22 t1_108 = some out → W p l e ({ frames := 3, cells := 0, slots := 0, locals := 63 } : Room) s m ([.ref p_this, .int x1, .int x2, .int x3] : List Value).toArray below meth c H locs 0 0 Q (F0 m 108 ls [.int t1_108, .int x5_34]) := by
                  intro t1_108 H locs hP hD hS ls hl hrun
                  rw [f_X6_chance_J108] at hrun
                  refine lv_imul hx hb dX6_chance_108 ?_
                  refine lv_istore (lv' := [(5, .int (x5_34 * t1_108)), (0, .ref p_this), (3, .int x3), (4, .int (x4_34 * t1_92)), (6, .int x6_34)]) hx hb dX6_chance_109 hl (by decide) rfl (fun ls hl => ?_)
                  refine lv_iinc (v := x6_34 + 1) (lv' := [(6, .int (x6_34 + 1)), (5, .int (x5_34 * t1_108)), (0, .ref p_this), (3, .int x3), (4, .int (x4_34 * t1_92))]) hx hb dX6_chance_111 hl (k := 4) rfl rfl (by decide) rfl (fun ls hl => ?_)
                  refine lv_goto (tgt := 34) hx hb dX6_chance_114 (by decide) ?_
                  exact ih34 (x4_34 * t1_92) (x5_34 * t1_108) (x6_34 + 1) H locs hP hD hS ls (lv_sub hl [2, 3, 4, 1, 0] rfl) hrun
                refine lv_if_eq (tgt := 107) hx hb dX6_chance_99 (by decide) (fun c_99 => ?_) (fun c_99 => ?_)
                · rw [if_pos c_99] at hrun
                  refine lv_iconst (v := 1) hx hb dX6_chance_107 (by decide) ?_
                  exact J108 1 H locs hP hD hS ls (lv_sub hl [1, 2, 0, 4] rfl) hrun
                · rw [if_neg c_99] at hrun
                  refine lv_bipush (v := 10) hx hb dX6_chance_102 (by decide) ?_
                  refine lv_goto (tgt := 108) hx hb dX6_chance_104 (by decide) ?_
                  exact J108 10 H locs hP hD hS ls (lv_sub hl [1, 2, 0, 4] rfl) hrun
              refine lv_if_eq (tgt := 91) hx hb dX6_chance_71 (by decide) (fun c_71 => ?_) (fun c_71 => ?_)
              · rw [if_pos c_71] at hrun
                refine lv_iconst (v := 1) hx hb dX6_chance_91 (by decide) ?_
                exact J92 1 H locs hP hD hS ls (lv_sub hl [1, 2, 4, 5, 0] rfl) hrun
              · rw [if_neg c_71] at hrun
                refine lv_bipush (v := 10) hx hb dX6_chance_74 (by decide) ?_
                refine lv_aload_n hx hb dX6_chance_76 rfl (lv_at hl 1 rfl) ?_
                refine va_get (D := (dC, dI)) (ci := 6) (v := .ref p_asker) (C := RX6) (T := TX6) (N := 30) hx hb hts iwX6 hown hK hP 0 rfl rfl 6 (by decide) (hts (.fieldLink RX6 16 "SkyListenersModel" "asker" "[I") (by decide +kernel)) (fun _ h9 => h9) rfl dX6_chance_77 ?_
                refine lv_iconst (v := 2) hx hb dX6_chance_80 (by decide) ?_
                refine lv_iload hx hb dX6_chance_81 (lv_at hl 5 rfl) ?_
                refine lv_imul hx hb dX6_chance_83 ?_
                refine lv_iconst (v := 1) hx hb dX6_chance_84 (by decide) ?_
                refine lv_iadd hx hb dX6_chance_85 ?_
                rcases Classical.em (((2 * x6_34) + 1) < 0 ∨ 10 ≤ ((2 * x6_34) + 1).toNatClampNeg) with g_86 | g_86
                · rw [if_pos g_86] at hrun; cases hrun
                rw [if_neg g_86] at hrun
                refine va_iald hx hb hK hP 1 0 rfl rfl g_86 dX6_chance_86 ?_
                refine lv_isub hx hb dX6_chance_87 ?_
                refine lv_goto (tgt := 92) hx hb dX6_chance_88 (by decide) ?_
                exact J92 (10 - (d_asker ((2 * x6_34) + 1).toNatClampNeg)) H locs hP hD hS ls (lv_sub hl [1, 2, 4, 5, 0] rfl) hrun
            refine lv_if_le (tgt := 64) hx hb dX6_chance_57 (by decide) (fun c_57 => ?_) (fun c_57 => ?_)
            · rw [if_pos c_57] at hrun
              refine lv_iconst (v := 0) hx hb dX6_chance_64 (by decide) ?_
              exact J65 0 H locs hP hD hS ls hl hrun
            · rw [if_neg c_57] at hrun
              refine lv_iconst (v := 1) hx hb dX6_chance_60 (by decide) ?_
              refine lv_goto (tgt := 65) hx hb dX6_chance_61 (by decide) ?_
              exact J65 1 H locs hP hD hS ls hl hrun
      exact L34 FU 1 1 0 H locs hP hD hS ls (lv_sub hl [3, 6, 2, 1, 0] rfl) hrun
    · rw [if_pos c_14] at hrun
      refine lv_iconst (v := (-1)) hx hb dX6_chance_17 (by decide) ?_
      have hrun := Option.some.inj hrun
      subst hrun
      rw [hQ]
      exact W.iret (v := (-1)) hx hb hr (fun t ht hW => ⟨⟨(-1), (), rfl, rfl, by rw [ht]; exact hP, hD⟩, hS.F ht⟩) hS.2.2 dX6_chance_18
-- SkyListenersModel.apart
def f_X6_apart_X159 (x3 : Int32) (x4 : Int32) : Option (Int32) := (if x4 = (-9) then (some x4) else (if x3 = 1 then (some x4) else ((f_X6_bits x4).bind fun q178 => (some q178))))
def f_X6_apart_J151 (K26 : Int32 → Int32 → Option (Int32)) (x1 : Int32) (x2 : Int32) (x3 : Int32) (x5 : Int32) (d_dishes : Int32) (d_st : Nat → Int32) (t0 : Int32) : Option (Int32) := (K26 t0 (x5 + 1))
def f_X6_apart_J137 (K26 : Int32 → Int32 → Option (Int32)) (x1 : Int32) (x2 : Int32) (x3 : Int32) (x4 : Int32) (x5 : Int32) (d_dishes : Int32) (d_st : Nat → Int32) (t0 : Int32) : Option (Int32) := (if t0 = 0 then (f_X6_apart_J151 K26 x1 x2 x3 x5 d_dishes d_st x4) else (f_X6_apart_J151 K26 x1 x2 x3 x5 d_dishes d_st x5))
def f_X6_apart_X102 (K26 : Int32 → Int32 → Option (Int32)) (x1 : Int32) (x2 : Int32) (x3 : Int32) (x4 : Int32) (x5 : Int32) (d_dishes : Int32) (d_st : Nat → Int32) (x6 : Int32) : Option (Int32) := ((f_X6_bits x6).bind fun q104 => (if q104 < 7 then (f_X6_apart_J137 K26 x1 x2 x3 x4 x5 d_dishes d_st 0) else (if x4 = (-9) then (f_X6_apart_J137 K26 x1 x2 x3 x4 x5 d_dishes d_st 1) else ((f_X6_bits x5).bind fun q121 => ((f_X6_bits x4).bind fun q126 => (if q126 ≤ q121 then (f_X6_apart_J137 K26 x1 x2 x3 x4 x5 d_dishes d_st 0) else (f_X6_apart_J137 K26 x1 x2 x3 x4 x5 d_dishes d_st 1)))))))
def f_X6_apart_X96 (K43 : Int32 → Int32 → Option (Int32)) (x1 : Int32) (x2 : Int32) (x3 : Int32) (x4 : Int32) (x5 : Int32) (x7 : Int32) (d_dishes : Int32) (d_st : Nat → Int32) (x6 : Int32) : Option (Int32) := (K43 x6 (x7 + 1))
def f_X6_apart_J87 (K55 : Int32 → Int32 → Option (Int32)) (x1 : Int32) (x2 : Int32) (x3 : Int32) (x4 : Int32) (x5 : Int32) (x7 : Int32) (x8 : Int32) (t0 : Int32) (d_dishes : Int32) (d_st : Nat → Int32) (t1 : Int32) : Option (Int32) := (K55 (t0 ||| t1) (x8 + 1))
def f_X6_apart_L55 (K96 : Int32 → Option (Int32)) (x1 : Int32) (x2 : Int32) (x3 : Int32) (x4 : Int32) (x5 : Int32) (x7 : Int32) (d_dishes : Int32) (d_st : Nat → Int32) : Nat → Int32 → Int32 → Option (Int32)
  | 0, _, _ => none
  | n9 + 1, x6, x8 => (if x2 < x8 then (K96 x6) else (if (f_X6_has x5 x7) = 0 then (f_X6_apart_J87 (f_X6_apart_L55 K96 x1 x2 x3 x4 x5 x7 d_dishes d_st n9) x1 x2 x3 x4 x5 x7 x8 x6 d_dishes d_st 0) else ((f_X6_looksOf d_st x7 x8).bind fun q79 => (f_X6_apart_J87 (f_X6_apart_L55 K96 x1 x2 x3 x4 x5 x7 d_dishes d_st n9) x1 x2 x3 x4 x5 x7 x8 x6 d_dishes d_st (1 <<< (q79 &&& 31))))))
def f_X6_apart_L43 (K102 : Int32 → Option (Int32)) (x1 : Int32) (x2 : Int32) (x3 : Int32) (x4 : Int32) (x5 : Int32) (d_dishes : Int32) (d_st : Nat → Int32) : Nat → Int32 → Int32 → Option (Int32)
  | 0, _, _ => none
  | n9 + 1, x6, x7 => (if d_dishes ≤ x7 then (K102 x6) else (f_X6_apart_L55 (f_X6_apart_X96 (f_X6_apart_L43 K102 x1 x2 x3 x4 x5 d_dishes d_st n9) x1 x2 x3 x4 x5 x7 d_dishes d_st) x1 x2 x3 x4 x5 x7 d_dishes d_st FU x6 x1))
def f_X6_apart_L26 (K159 : Int32 → Option (Int32)) (x1 : Int32) (x2 : Int32) (x3 : Int32) (d_dishes : Int32) (d_st : Nat → Int32) : Nat → Int32 → Int32 → Option (Int32)
  | 0, _, _ => none
  | n9 + 1, x4, x5 => (if (1 <<< (d_dishes &&& 31)) ≤ x5 then (K159 x4) else (f_X6_apart_L43 (f_X6_apart_X102 (f_X6_apart_L26 K159 x1 x2 x3 d_dishes d_st n9) x1 x2 x3 x4 x5 d_dishes d_st) x1 x2 x3 x4 x5 d_dishes d_st FU 0 0))
def f_X6_apart (d_dishes : Int32) (d_st : Nat → Int32) (x1 : Int32) (x2 : Int32) (x3 : Int32) : Option (Int32) := (if (f_X6_areHours x1 x2) = 0 then (some (-1)) else (if (f_X6_in x3 0 1) = 0 then (some (-1)) else (f_X6_apart_L26 (f_X6_apart_X159 x3) x1 x2 x3 d_dishes d_st FU (-9) 0)))
set_option maxHeartbeats 4000000 in
set_option maxRecDepth 100000 in
theorem c_X6_apart (l : Launch) (dC : Nat → ClassId) (dI : Nat → Nat → Nat) (cI cZ : ClassId) (sz : Nat) (p_asker p_images p_isKept p_noise p_room p_saidAsker p_saidMount p_saidNoise p_saidSpeaker p_speaker p_st p_text p_this : Nat) (d_dishes : Int32) (d_speakers : Int32) (d_noises : Int32) (d_askers : Int32) (d_trace : Int64) (d_texted : Int32) (d_cursor : Int32) (d_start : Int32) (d_token : Int32) (d_number : Int32) (d_word : Int64) (d_isWrong : Int32) (d_saidDishes : Int32) (d_saidSpeakers : Int32) (d_saidNoises : Int32) (d_saidAskers : Int32) (d_couldBe : Int32) (d_couldHere : Int32) (d_st : Nat → Int32) (x1 : Int32) (x2 : Int32) (x3 : Int32) (out : Int32) (hrun : f_X6_apart d_dishes d_st x1 x2 x3 = some out) : Met l yX6_apart wsX6_apart ({ frames := 3, cells := 0, slots := 0, locals := 63 } : Room) (va_Pc [.ref p_this, .int x1, .int x2, .int x3] (PC dC dI cI cZ sz ([(p_this, .inr (6, [.int d_dishes, .int d_speakers, .ref p_speaker, .int d_noises, .ref p_noise, .int d_askers, .ref p_asker, .ref p_st, .ref p_images, .ref p_isKept, .long d_trace, .ref p_text, .int d_texted, .int d_cursor, .int d_start, .int d_token, .int d_number, .long d_word, .int d_isWrong, .int d_saidDishes, .ref p_saidMount, .int d_saidSpeakers, .ref p_saidSpeaker, .int d_saidNoises, .ref p_saidNoise, .int d_saidAskers, .ref p_saidAsker, .ref p_room, .int d_couldBe, .int d_couldHere])), (p_st, .inl (cI, 104, .inl d_st))] : va_W))) (va_Qi (fun r (_ : Unit) => r = out) (fun _ t => va_P (dC, dI) vwCl [(p_this, .inr (6, [.int d_dishes, .int d_speakers, .ref p_speaker, .int d_noises, .ref p_noise, .int d_askers, .ref p_asker, .ref p_st, .ref p_images, .ref p_isKept, .long d_trace, .ref p_text, .int d_texted, .int d_cursor, .int d_start, .int d_token, .int d_number, .long d_word, .int d_isWrong, .int d_saidDishes, .ref p_saidMount, .int d_saidSpeakers, .ref p_saidSpeaker, .int d_saidNoises, .ref p_saidNoise, .int d_saidAskers, .ref p_saidAsker, .ref p_room, .int d_couldBe, .int d_couldHere])), (p_st, .inl (cI, 104, .inl d_st))] t.heap ∧ va_D (va_A ([(p_this, .inr (6, [.int d_dishes, .int d_speakers, .ref p_speaker, .int d_noises, .ref p_noise, .int d_askers, .ref p_asker, .ref p_st, .ref p_images, .ref p_isKept, .long d_trace, .ref p_text, .int d_texted, .int d_cursor, .int d_start, .int d_token, .int d_number, .long d_word, .int d_isWrong, .int d_saidDishes, .ref p_saidMount, .int d_saidSpeakers, .ref p_saidSpeaker, .int d_saidNoises, .ref p_saidNoise, .int d_saidAskers, .ref p_saidAsker, .ref p_room, .int d_couldBe, .int d_couldHere])), (p_st, .inl (cI, 104, .inl d_st))] : va_W) sz) [(p_this, .inr (6, [.int d_dishes, .int d_speakers, .ref p_speaker, .int d_noises, .ref p_noise, .int d_askers, .ref p_asker, .ref p_st, .ref p_images, .ref p_isKept, .long d_trace, .ref p_text, .int d_texted, .int d_cursor, .int d_start, .int d_token, .int d_number, .long d_word, .int d_isWrong, .int d_saidDishes, .ref p_saidMount, .int d_saidSpeakers, .ref p_saidSpeaker, .int d_saidNoises, .ref p_saidNoise, .int d_saidAskers, .ref p_saidAsker, .ref p_room, .int d_couldBe, .int d_couldHere])), (p_st, .inl (cI, 104, .inl d_st))]) (va_A ([(p_this, .inr (6, [.int d_dishes, .int d_speakers, .ref p_speaker, .int d_noises, .ref p_noise, .int d_askers, .ref p_asker, .ref p_st, .ref p_images, .ref p_isKept, .long d_trace, .ref p_text, .int d_texted, .int d_cursor, .int d_start, .int d_token, .int d_number, .long d_word, .int d_isWrong, .int d_saidDishes, .ref p_saidMount, .int d_saidSpeakers, .ref p_saidSpeaker, .int d_saidNoises, .ref p_saidNoise, .int d_saidAskers, .ref p_saidAsker, .ref p_room, .int d_couldBe, .int d_couldHere])), (p_st, .inl (cI, 104, .inl d_st))] : va_W) sz)) 0 0 (va_A ([(p_this, .inr (6, [.int d_dishes, .int d_speakers, .ref p_speaker, .int d_noises, .ref p_noise, .int d_askers, .ref p_asker, .ref p_st, .ref p_images, .ref p_isKept, .long d_trace, .ref p_text, .int d_texted, .int d_cursor, .int d_start, .int d_token, .int d_number, .long d_word, .int d_isWrong, .int d_saidDishes, .ref p_saidMount, .int d_saidSpeakers, .ref p_saidSpeaker, .int d_saidNoises, .ref p_saidNoise, .int d_saidAskers, .ref p_saidAsker, .ref p_room, .int d_couldBe, .int d_couldHere])), (p_st, .inl (cI, 104, .inl d_st))] : va_W) sz) := by
  refine Met.ofW (cc := cX6_apart) (maxL := 9) (ret := (some .int)) (by decide) rfl ?_
  intro p e s m args below meth c s₁ B hml hv
  obtain ⟨rfl, hsz, hP, hK, hD0, hN⟩ := hv
  have hx := B.exec
  have hb := B.bytes
  have hr := B.returns
  have hts := atoms_spec (ws := wsX6_apart) B.pre
  have hown : s.vm.findClass RX6 = some m.cls := findClass_of_methodNamed B.named
  have hlocks := B.notSynchronized
  subst hsz
  have hD := hD0.self (sz := s.heap.size)
  generalize hAe : va_A ([(p_this, .inr (6, [.int d_dishes, .int d_speakers, .ref p_speaker, .int d_noises, .ref p_noise, .int d_askers, .ref p_asker, .ref p_st, .ref p_images, .ref p_isKept, .long d_trace, .ref p_text, .int d_texted, .int d_cursor, .int d_start, .int d_token, .int d_number, .long d_word, .int d_isWrong, .int d_saidDishes, .ref p_saidMount, .int d_saidSpeakers, .ref p_saidSpeaker, .int d_saidNoises, .ref p_saidNoise, .int d_saidAskers, .ref p_saidAsker, .ref p_room, .int d_couldBe, .int d_couldHere])), (p_st, .inl (cI, 104, .inl d_st))] : va_W) s.heap.size = A at hD ⊢
  have hA : ∀ q : Nat, s.heap.size ≤ q → A q := fun q h => by rw [← hAe]; exact Or.inr h
  have hS : va_S A s.heap s.heap [] := va_S.rf
  refine W_abs (fun Q hQ => ?_)
  have hl := lv_entry ([.ref p_this, .int x1, .int x2, .int x3]) (n := 9) (Nat.le_of_ble_eq_true rfl)
  rw [lg_entry_eq]
  generalize (lg_sl ([.ref p_this, .int x1, .int x2, .int x3]) ++ List.replicate (9 - (lg_sl ([.ref p_this, .int x1, .int x2, .int x3])).length) Slot.unset).toArray = ls at hl ⊢
  have hl : lv_has ls 9 [(0, .ref p_this), (1, .int x1), (2, .int x2), (3, .int x3)] := hl
  rw [f_X6_apart] at hrun
  refine W_start (ws := [(p_this, .inr (6, [.int d_dishes, .int d_speakers, .ref p_speaker, .int d_noises, .ref p_noise, .int d_askers, .ref p_asker, .ref p_st, .ref p_images, .ref p_isKept, .long d_trace, .ref p_text, .int d_texted, .int d_cursor, .int d_start, .int d_token, .int d_number, .long d_word, .int d_isWrong, .int d_saidDishes, .ref p_saidMount, .int d_saidSpeakers, .ref p_saidSpeaker, .int d_saidNoises, .ref p_saidNoise, .int d_saidAskers, .ref p_saidAsker, .ref p_room, .int d_couldBe, .int d_couldHere])), (p_st, .inl (cI, 104, .inl d_st))]) hP hS (fun H locs hP hS => ?_)
  have iwX6 : ∀ w ∈ wsX60, w ∈ wsX6_apart := by decide +kernel
  refine lv_iload_n hx hb dX6_apart_0 rfl (lv_at hl 1 rfl) ?_
  refine lv_iload_n hx hb dX6_apart_1 rfl (lv_at hl 2 rfl) ?_
  have hPc : va_P (dC, dI) vwCl [] H := hP.sub [] rfl
  have hDc : va_D A [] := hD.sub [] (by decide) rfl
  have hFc := va_free (wc := []) hD hS hA [] rfl
  refine va_calli (va_runS (As := [.int x1, .int x2]) (rest := []) ⟨hx, hb, hml, hown, hts⟩ (c_X6_areHours l dC dI cI cZ H.size x1 x2 (f_X6_areHours x1 x2) rfl) (va_cwS 2 hts gX6_apart_X6_areHours rfl rfl rfl (by decide +kernel) ⟨Nat.le_of_ble_eq_true rfl, Nat.le_of_ble_eq_true rfl⟩) ⟨fun a U g mk q => ⟨q.1, PC.mv q.2⟩, fun U hU hW => ⟨rfl, PC.of hU hW hPc hK hDc hN⟩⟩ rfl rfl hl.1 rfl (lv_room (Nat.le_of_ble_eq_true rfl)) dX6_apart_2 ⟨Nat.zero_le _, Nat.zero_le _⟩) hS (fun q _ h => hFc q h) hFc (fun r_2 u t H1 locs ht hvm hw hB hz1 hk1 hS => ?_)
  obtain ⟨hP1, hD1⟩ := hB
  try dsimp only at hw
  rw [hw]
  rw [ht] at hP1
  have hP : va_P (dC, dI) vwCl [(p_this, .inr (6, [.int d_dishes, .int d_speakers, .ref p_speaker, .int d_noises, .ref p_noise, .int d_askers, .ref p_asker, .ref p_st, .ref p_images, .ref p_isKept, .long d_trace, .ref p_text, .int d_texted, .int d_cursor, .int d_start, .int d_token, .int d_number, .long d_word, .int d_isWrong, .int d_saidDishes, .ref p_saidMount, .int d_saidSpeakers, .ref p_saidSpeaker, .int d_saidNoises, .ref p_saidNoise, .int d_saidAskers, .ref p_saidAsker, .ref p_room, .int d_couldBe, .int d_couldHere])), (p_st, .inl (cI, 104, .inl d_st))] H1 := join_ro hP hD [] rfl hk1 hP1
  clear hPc hDc hFc hk1 hz1 hP1 hD1 ht hvm
  generalize H1 = H at hP hS ⊢
  refine lv_if_eq (tgt := 17) hx hb dX6_apart_5 (by decide) (fun c_5 => ?_) (fun c_5 => ?_)
  · rw [if_pos c_5] at hrun
    refine lv_iconst (v := (-1)) hx hb dX6_apart_17 (by decide) ?_
    have hrun := Option.some.inj hrun
    subst hrun
    rw [hQ]
    exact W.iret (v := (-1)) hx hb hr (fun t ht hW => ⟨⟨(-1), (), rfl, rfl, by rw [ht]; exact hP, hD⟩, hS.F ht⟩) hS.2.2 dX6_apart_18
  · rw [if_neg c_5] at hrun
    refine lv_iload_n hx hb dX6_apart_8 rfl (lv_at hl 3 rfl) ?_
    refine lv_iconst (v := 0) hx hb dX6_apart_9 (by decide) ?_
    refine lv_iconst (v := 1) hx hb dX6_apart_10 (by decide) ?_
    have hPc : va_P (dC, dI) vwCl [] H := hP.sub [] rfl
    have hDc : va_D A [] := hD.sub [] (by decide) rfl
    have hFc := va_free (wc := []) hD hS hA [] rfl
    refine va_calli (va_runS (As := [.int x3, .int 0, .int 1]) (rest := []) ⟨hx, hb, hml, hown, hts⟩ (c_X6_in l dC dI cI cZ H.size x3 0 1 (f_X6_in x3 0 1) rfl) (va_cwS 3 hts gX6_apart_X6_in rfl rfl rfl (by decide +kernel) ⟨Nat.le_of_ble_eq_true rfl, Nat.le_of_ble_eq_true rfl⟩) ⟨fun a U g mk q => ⟨q.1, PC.mv q.2⟩, fun U hU hW => ⟨rfl, PC.of hU hW hPc hK hDc hN⟩⟩ rfl rfl hl.1 rfl (lv_room (Nat.le_of_ble_eq_true rfl)) dX6_apart_11 ⟨Nat.zero_le _, Nat.zero_le _⟩) hS (fun q _ h => hFc q h) hFc (fun r_11 u t H1 locs ht hvm hw hB hz1 hk1 hS => ?_)
    obtain ⟨hP1, hD1⟩ := hB
    try dsimp only at hw
    rw [hw]
    rw [ht] at hP1
    have hP : va_P (dC, dI) vwCl [(p_this, .inr (6, [.int d_dishes, .int d_speakers, .ref p_speaker, .int d_noises, .ref p_noise, .int d_askers, .ref p_asker, .ref p_st, .ref p_images, .ref p_isKept, .long d_trace, .ref p_text, .int d_texted, .int d_cursor, .int d_start, .int d_token, .int d_number, .long d_word, .int d_isWrong, .int d_saidDishes, .ref p_saidMount, .int d_saidSpeakers, .ref p_saidSpeaker, .int d_saidNoises, .ref p_saidNoise, .int d_saidAskers, .ref p_saidAsker, .ref p_room, .int d_couldBe, .int d_couldHere])), (p_st, .inl (cI, 104, .inl d_st))] H1 := join_ro hP hD [] rfl hk1 hP1
    clear hPc hDc hFc hk1 hz1 hP1 hD1 ht hvm
    generalize H1 = H at hP hS ⊢
    refine lv_if_ne (tgt := 19) hx hb dX6_apart_14 (by decide) (fun c_14 => ?_) (fun c_14 => ?_)
    · rw [if_neg c_14] at hrun
      refine lv_bipush (v := (-9)) hx hb dX6_apart_19 (by decide) ?_
      refine lv_istore (lv' := [(4, .int (-9)), (0, .ref p_this), (1, .int x1), (2, .int x2), (3, .int x3)]) hx hb dX6_apart_21 hl (by decide) rfl (fun ls hl => ?_)
      refine lv_iconst (v := 0) hx hb dX6_apart_23 (by decide) ?_
      refine lv_istore (lv' := [(5, .int 0), (4, .int (-9)), (0, .ref p_this), (1, .int x1), (2, .int x2), (3, .int x3)]) hx hb dX6_apart_24 hl (by decide) rfl (fun ls hl => ?_)
      have X159 : ∀ (x4_159 : Int32) (H : Heap) (locs : List Loc), va_P (dC, dI) vwCl [(p_this, .inr (6, [.int d_dishes, .int d_speakers, .ref p_speaker, .int d_noises, .ref p_noise, .int d_askers, .ref p_asker, .ref p_st, .ref p_images, .ref p_isKept, .long d_trace, .ref p_text, .int d_texted, .int d_cursor, .int d_start, .int d_token, .int d_number, .long d_word, .int d_isWrong, .int d_saidDishes, .ref p_saidMount, .int d_saidSpeakers, .ref p_saidSpeaker, .int d_saidNoises, .ref p_saidNoise, .int d_saidAskers, .ref p_saidAsker, .ref p_room, .int d_couldBe, .int d_couldHere])), (p_st, .inl (cI, 104, .inl d_st))] H → va_D A [(p_this, .inr (6, [.int d_dishes, .int d_speakers, .ref p_speaker, .int d_noises, .ref p_noise, .int d_askers, .ref p_asker, .ref p_st, .ref p_images, .ref p_isKept, .long d_trace, .ref p_text, .int d_texted, .int d_cursor, .int d_start, .int d_token, .int d_number, .long d_word, .int d_isWrong, .int d_saidDishes, .ref p_saidMount, .int d_saidSpeakers, .ref p_saidSpeaker, .int d_saidNoises, .ref p_saidNoise, .int d_saidAskers, .ref p_saidAsker, .ref p_room, .int d_couldBe, .int d_couldHere])), (p_st, .inl (cI, 104, .inl d_st))] → va_S A s.heap H locs → ∀ ls : Array Slot, lv_has ls 9 [(3, .int x3), (4, .int x4_159)] → f_X6_apart_X159 x3 x4_159 = some out → W p l e ({ frames := 3, cells := 0, slots := 0, locals := 63 } : Room) s m ([.ref p_this, .int x1, .int x2, .int x3] : List Value).toArray below meth c H locs 0 0 Q (F0 m 159 ls []) := by
        intro x4_159 H locs hP hD hS ls hl hrun
        rw [f_X6_apart_X159] at hrun
        refine lv_iload hx hb dX6_apart_159 (lv_at hl 1 rfl) ?_
        refine lv_bipush (v := (-9)) hx hb dX6_apart_161 (by decide) ?_
        refine lv_icmp_eq (tgt := 171) hx hb dX6_apart_163 (by decide) (fun c_163 => ?_) (fun c_163 => ?_)
        · rw [if_pos c_163] at hrun
          refine lv_iload hx hb dX6_apart_171 (lv_at hl 1 rfl) ?_
          refine lv_goto (tgt := 181) hx hb dX6_apart_173 (by decide) ?_
          have hrun := Option.some.inj hrun
          subst hrun
          rw [hQ]
          exact W.iret (v := x4_159) hx hb hr (fun t ht hW => ⟨⟨x4_159, (), rfl, rfl, by rw [ht]; exact hP, hD⟩, hS.F ht⟩) hS.2.2 dX6_apart_181
        · rw [if_neg c_163] at hrun
          refine lv_iload_n hx hb dX6_apart_166 rfl (lv_at hl 0 rfl) ?_
          refine lv_iconst (v := 1) hx hb dX6_apart_167 (by decide) ?_
          refine lv_icmp_ne (tgt := 176) hx hb dX6_apart_168 (by decide) (fun c_168 => ?_) (fun c_168 => ?_)
          · rw [if_neg c_168] at hrun
            refine lv_iload hx hb dX6_apart_176 (lv_at hl 1 rfl) ?_
            obtain ⟨q178, hq178, hrun⟩ := bind_out hrun
            have hPc : va_P (dC, dI) vwCl [] H := hP.sub [] rfl
            have hDc : va_D A [] := hD.sub [] (by decide) rfl
            have hFc := va_free (wc := []) hD hS hA [] rfl
            refine va_calli (va_runS (As := [.int x4_159]) (rest := []) ⟨hx, hb, hml, hown, hts⟩ (c_X6_bits l dC dI cI cZ H.size x4_159 q178 hq178) (va_cwS 1 hts gX6_apart_X6_bits rfl rfl rfl (by decide +kernel) ⟨Nat.le_of_ble_eq_true rfl, Nat.le_of_ble_eq_true rfl⟩) ⟨fun a U g mk q => ⟨q.1, PC.mv q.2⟩, fun U hU hW => ⟨rfl, PC.of hU hW hPc hK hDc hN⟩⟩ rfl rfl hl.1 rfl (lv_room (Nat.le_of_ble_eq_true rfl)) dX6_apart_178 ⟨Nat.zero_le _, Nat.zero_le _⟩) hS (fun q _ h => hFc q h) hFc (fun r_178 u t H1 locs ht hvm hw hB hz1 hk1 hS => ?_)
            obtain ⟨hP1, hD1⟩ := hB
            try dsimp only at hw
            rw [hw]
            rw [ht] at hP1
            have hP : va_P (dC, dI) vwCl [(p_this, .inr (6, [.int d_dishes, .int d_speakers, .ref p_speaker, .int d_noises, .ref p_noise, .int d_askers, .ref p_asker, .ref p_st, .ref p_images, .ref p_isKept, .long d_trace, .ref p_text, .int d_texted, .int d_cursor, .int d_start, .int d_token, .int d_number, .long d_word, .int d_isWrong, .int d_saidDishes, .ref p_saidMount, .int d_saidSpeakers, .ref p_saidSpeaker, .int d_saidNoises, .ref p_saidNoise, .int d_saidAskers, .ref p_saidAsker, .ref p_room, .int d_couldBe, .int d_couldHere])), (p_st, .inl (cI, 104, .inl d_st))] H1 := join_ro hP hD [] rfl hk1 hP1
            clear hPc hDc hFc hk1 hz1 hP1 hD1 ht hvm
            generalize H1 = H at hP hS ⊢
            have hrun := Option.some.inj hrun
            subst hrun
            rw [hQ]
            exact W.iret (v := q178) hx hb hr (fun t ht hW => ⟨⟨q178, (), rfl, rfl, by rw [ht]; exact hP, hD⟩, hS.F ht⟩) hS.2.2 dX6_apart_181
          · rw [if_pos c_168] at hrun
            refine lv_iload hx hb dX6_apart_171 (lv_at hl 1 rfl) ?_
            refine lv_goto (tgt := 181) hx hb dX6_apart_173 (by decide) ?_
            have hrun := Option.some.inj hrun
            subst hrun
            rw [hQ]
            exact W.iret (v := x4_159) hx hb hr (fun t ht hW => ⟨⟨x4_159, (), rfl, rfl, by rw [ht]; exact hP, hD⟩, hS.F ht⟩) hS.2.2 dX6_apart_181
      have L26 : ∀ (n9_26 : Nat) (x4_26 : Int32) (x5_26 : Int32) (H : Heap) (locs : List Loc), va_P (dC, dI) vwCl [(p_this, .inr (6, [.int d_dishes, .int d_speakers, .ref p_speaker, .int d_noises, .ref p_noise, .int d_askers, .ref p_asker, .ref p_st, .ref p_images, .ref p_isKept, .long d_trace, .ref p_text, .int d_texted, .int d_cursor, .int d_start, .int d_token, .int d_number, .long d_word, .int d_isWrong, .int d_saidDishes, .ref p_saidMount, .int d_saidSpeakers, .ref p_saidSpeaker, .int d_saidNoises, .ref p_saidNoise, .int d_saidAskers, .ref p_saidAsker, .ref p_room, .int d_couldBe, .int d_couldHere])), (p_st, .inl (cI, 104, .inl d_st))] H → va_D A [(p_this, .inr (6, [.int d_dishes, .int d_speakers, .ref p_speaker, .int d_noises, .ref p_noise, .int d_askers, .ref p_asker, .ref p_st, .ref p_images, .ref p_isKept, .long d_trace, .ref p_text, .int d_texted, .int d_cursor, .int d_start, .int d_token, .int d_number, .long d_word, .int d_isWrong, .int d_saidDishes, .ref p_saidMount, .int d_saidSpeakers, .ref p_saidSpeaker, .int d_saidNoises, .ref p_saidNoise, .int d_saidAskers, .ref p_saidAsker, .ref p_room, .int d_couldBe, .int d_couldHere])), (p_st, .inl (cI, 104, .inl d_st))] → va_S A s.heap H locs → ∀ ls : Array Slot, lv_has ls 9 [(0, .ref p_this), (1, .int x1), (2, .int x2), (3, .int x3), (4, .int x4_26), (5, .int x5_26)] → f_X6_apart_L26 (f_X6_apart_X159 x3) x1 x2 x3 d_dishes d_st n9_26 x4_26 x5_26 = some out → W p l e ({ frames := 3, cells := 0, slots := 0, locals := 63 } : Room) s m ([.ref p_this, .int x1, .int x2, .int x3] : List Value).toArray below meth c H locs 0 0 Q (F0 m 26 ls []) := by
        intro n9_26
        induction n9_26 with
        | zero =>
          intro x4_26 x5_26 H locs hP hD hS ls hl hrun
          rw [f_X6_apart_L26] at hrun
          cases hrun
        | succ n9_26 ih26 =>
          intro x4_26 x5_26 H locs hP hD hS ls hl hrun
          rw [f_X6_apart_L26] at hrun
          refine lv_iload hx hb dX6_apart_26 (lv_at hl 5 rfl) ?_
          refine lv_iconst (v := 1) hx hb dX6_apart_28 (by decide) ?_
          refine lv_aload_n hx hb dX6_apart_29 rfl (lv_at hl 0 rfl) ?_
          refine va_get (D := (dC, dI)) (ci := 6) (v := .int d_dishes) (C := RX6) (T := TX6) (N := 30) hx hb hts iwX6 hown hK hP 0 rfl rfl 0 (by decide) (hts (.fieldLink RX6 47 "SkyListenersModel" "dishes" "I") (by decide +kernel)) (fun _ h9 => h9) rfl dX6_apart_30 ?_
          refine lv_ishl hx hb dX6_apart_33 ?_
          refine lv_icmp_ge (tgt := 159) hx hb dX6_apart_34 (by decide) (fun c_34 => ?_) (fun c_34 => ?_)
          · rw [if_pos c_34] at hrun
            exact X159 x4_26 H locs hP hD hS ls (lv_sub hl [3, 4] rfl) hrun
          · rw [if_neg c_34] at hrun
            refine lv_iconst (v := 0) hx hb dX6_apart_37 (by decide) ?_
            refine lv_istore (lv' := [(6, .int 0), (0, .ref p_this), (1, .int x1), (2, .int x2), (3, .int x3), (4, .int x4_26), (5, .int x5_26)]) hx hb dX6_apart_38 hl (by decide) rfl (fun ls hl => ?_)
            refine lv_iconst (v := 0) hx hb dX6_apart_40 (by decide) ?_
            refine lv_istore (lv' := [(7, .int 0), (6, .int 0), (0, .ref p_this), (1, .int x1), (2, .int x2), (3, .int x3), (4, .int x4_26), (5, .int x5_26)]) hx hb dX6_apart_41 hl (by decide) rfl (fun ls hl => ?_)
            have X102 : ∀ (x6_102 : Int32) (H : Heap) (locs : List Loc), va_P (dC, dI) vwCl [(p_this, .inr (6, [.int d_dishes, .int d_speakers, .ref p_speaker, .int d_noises, .ref p_noise, .int d_askers, .ref p_asker, .ref p_st, .ref p_images, .ref p_isKept, .long d_trace, .ref p_text, .int d_texted, .int d_cursor, .int d_start, .int d_token, .int d_number, .long d_word, .int d_isWrong, .int d_saidDishes, .ref p_saidMount, .int d_saidSpeakers, .ref p_saidSpeaker, .int d_saidNoises, .ref p_saidNoise, .int d_saidAskers, .ref p_saidAsker, .ref p_room, .int d_couldBe, .int d_couldHere])), (p_st, .inl (cI, 104, .inl d_st))] H → va_D A [(p_this, .inr (6, [.int d_dishes, .int d_speakers, .ref p_speaker, .int d_noises, .ref p_noise, .int d_askers, .ref p_asker, .ref p_st, .ref p_images, .ref p_isKept, .long d_trace, .ref p_text, .int d_texted, .int d_cursor, .int d_start, .int d_token, .int d_number, .long d_word, .int d_isWrong, .int d_saidDishes, .ref p_saidMount, .int d_saidSpeakers, .ref p_saidSpeaker, .int d_saidNoises, .ref p_saidNoise, .int d_saidAskers, .ref p_saidAsker, .ref p_room, .int d_couldBe, .int d_couldHere])), (p_st, .inl (cI, 104, .inl d_st))] → va_S A s.heap H locs → ∀ ls : Array Slot, lv_has ls 9 [(0, .ref p_this), (1, .int x1), (2, .int x2), (3, .int x3), (4, .int x4_26), (5, .int x5_26), (6, .int x6_102)] → f_X6_apart_X102 (f_X6_apart_L26 (f_X6_apart_X159 x3) x1 x2 x3 d_dishes d_st n9_26) x1 x2 x3 x4_26 x5_26 d_dishes d_st x6_102 = some out → W p l e ({ frames := 3, cells := 0, slots := 0, locals := 63 } : Room) s m ([.ref p_this, .int x1, .int x2, .int x3] : List Value).toArray below meth c H locs 0 0 Q (F0 m 102 ls []) := by
              intro x6_102 H locs hP hD hS ls hl hrun
              rw [f_X6_apart_X102] at hrun
              refine lv_iload hx hb dX6_apart_102 (lv_at hl 6 rfl) ?_
              obtain ⟨q104, hq104, hrun⟩ := bind_out hrun
              have hPc : va_P (dC, dI) vwCl [] H := hP.sub [] rfl
              have hDc : va_D A [] := hD.sub [] (by decide) rfl
              have hFc := va_free (wc := []) hD hS hA [] rfl
              refine va_calli (va_runS (As := [.int x6_102]) (rest := []) ⟨hx, hb, hml, hown, hts⟩ (c_X6_bits l dC dI cI cZ H.size x6_102 q104 hq104) (va_cwS 1 hts gX6_apart_X6_bits rfl rfl rfl (by decide +kernel) ⟨Nat.le_of_ble_eq_true rfl, Nat.le_of_ble_eq_true rfl⟩) ⟨fun a U g mk q => ⟨q.1, PC.mv q.2⟩, fun U hU hW => ⟨rfl, PC.of hU hW hPc hK hDc hN⟩⟩ rfl rfl hl.1 rfl (lv_room (Nat.le_of_ble_eq_true rfl)) dX6_apart_104 ⟨Nat.zero_le _, Nat.zero_le _⟩) hS (fun q _ h => hFc q h) hFc (fun r_104 u t H1 locs ht hvm hw hB hz1 hk1 hS => ?_)
              obtain ⟨hP1, hD1⟩ := hB
              try dsimp only at hw
              rw [hw]
              rw [ht] at hP1
              have hP : va_P (dC, dI) vwCl [(p_this, .inr (6, [.int d_dishes, .int d_speakers, .ref p_speaker, .int d_noises, .ref p_noise, .int d_askers, .ref p_asker, .ref p_st, .ref p_images, .ref p_isKept, .long d_trace, .ref p_text, .int d_texted, .int d_cursor, .int d_start, .int d_token, .int d_number, .long d_word, .int d_isWrong, .int d_saidDishes, .ref p_saidMount, .int d_saidSpeakers, .ref p_saidSpeaker, .int d_saidNoises, .ref p_saidNoise, .int d_saidAskers, .ref p_saidAsker, .ref p_room, .int d_couldBe, .int d_couldHere])), (p_st, .inl (cI, 104, .inl d_st))] H1 := join_ro hP hD [] rfl hk1 hP1
              clear hPc hDc hFc hk1 hz1 hP1 hD1 ht hvm
              generalize H1 = H at hP hS ⊢
              refine lv_bipush (v := 7) hx hb dX6_apart_107 (by decide) ?_
              have J137 : ∀ (t0_137 : Int32) (H : Heap) (locs : List Loc), va_P (dC, dI) vwCl [(p_this, .inr (6, [.int d_dishes, .int d_speakers, .ref p_speaker, .int d_noises, .ref p_noise, .int d_askers, .ref p_asker, .ref p_st, .ref p_images, .ref p_isKept, .long d_trace, .ref p_text, .int d_texted, .int d_cursor, .int d_start, .int d_token, .int d_number, .long d_word, .int d_isWrong, .int d_saidDishes, .ref p_saidMount, .int d_saidSpeakers, .ref p_saidSpeaker, .int d_saidNoises, .ref p_saidNoise, .int d_saidAskers, .ref p_saidAsker, .ref p_room, .int d_couldBe, .int d_couldHere])), (p_st, .inl (cI, 104, .inl d_st))] H → va_D A [(p_this, .inr (6, [.int d_dishes, .int d_speakers, .ref p_speaker, .int d_noises, .ref p_noise, .int d_askers, .ref p_asker, .ref p_st, .ref p_images, .ref p_isKept, .long d_trace, .ref p_text, .int d_texted, .int d_cursor, .int d_start, .int d_token, .int d_number, .long d_word, .int d_isWrong, .int d_saidDishes, .ref p_saidMount, .int d_saidSpeakers, .ref p_saidSpeaker, .int d_saidNoises, .ref p_saidNoise, .int d_saidAskers, .ref p_saidAsker, .ref p_room, .int d_couldBe, .int d_couldHere])), (p_st, .inl (cI, 104, .inl d_st))] → va_S A s.heap H locs → ∀ ls : Array Slot, lv_has ls 9 [(0, .ref p_this), (1, .int x1), (2, .int x2), (3, .int x3), (4, .int x4_26), (5, .int x5_26)] → f_X6_apart_J137 (f_X6_apart_L26 (f_X6_apart_X159 x3) x1 x2 x3 d_dishes d_st n9_26) x1 x2 x3 x4_26 x5_26 d_dishes d_st t0_137 = some out → W p l e ({ frames := 3, cells := 0, slots := 0, locals := 63 } : Room) s m ([.ref p_this, .int x1, .int x2, .int x3] : List Value).toArray below meth c H locs 0 0 Q (F0 m 137 ls [.int t0_137]) := by
                intro t0_137 H locs hP hD hS ls hl hrun
                rw [f_X6_apart_J137] at hrun
                refine lv_istore (lv' := [(7, .int t0_137), (0, .ref p_this), (1, .int x1), (2, .int x2), (3, .int x3), (4, .int x4_26), (5, .int x5_26)]) hx hb dX6_apart_137 hl (by decide) rfl (fun ls hl => ?_)
                refine lv_iload hx hb dX6_apart_139 (lv_at hl 0 rfl) ?_
                have J151 : ∀ (t0_151 : Int32) (H : Heap) (locs : List Loc), va_P (dC, dI) vwCl [(p_this, .inr (6, [.int d_dishes, .int d_speakers, .ref p_speaker, .int d_noises, .ref p_noise, .int d_askers, .ref p_asker, .ref p_st, .ref p_images, .ref p_isKept, .long d_trace, .ref p_text, .int d_texted, .int d_cursor, .int d_start, .int d_token, .int d_number, .long d_word, .int d_isWrong, .int d_saidDishes, .ref p_saidMount, .int d_saidSpeakers, .ref p_saidSpeaker, .int d_saidNoises, .ref p_saidNoise, .int d_saidAskers, .ref p_saidAsker, .ref p_room, .int d_couldBe, .int d_couldHere])), (p_st, .inl (cI, 104, .inl d_st))] H → va_D A [(p_this, .inr (6, [.int d_dishes, .int d_speakers, .ref p_speaker, .int d_noises, .ref p_noise, .int d_askers, .ref p_asker, .ref p_st, .ref p_images, .ref p_isKept, .long d_trace, .ref p_text, .int d_texted, .int d_cursor, .int d_start, .int d_token, .int d_number, .long d_word, .int d_isWrong, .int d_saidDishes, .ref p_saidMount, .int d_saidSpeakers, .ref p_saidSpeaker, .int d_saidNoises, .ref p_saidNoise, .int d_saidAskers, .ref p_saidAsker, .ref p_room, .int d_couldBe, .int d_couldHere])), (p_st, .inl (cI, 104, .inl d_st))] → va_S A s.heap H locs → ∀ ls : Array Slot, lv_has ls 9 [(0, .ref p_this), (1, .int x1), (2, .int x2), (3, .int x3), (5, .int x5_26)] → f_X6_apart_J151 (f_X6_apart_L26 (f_X6_apart_X159 x3) x1 x2 x3 d_dishes d_st n9_26) x1 x2 x3 x5_26 d_dishes d_st t0_151 = some out → W p l e ({ frames := 3, cells := 0, slots := 0, locals := 63 } : Room) s m ([.ref p_this, .int x1, .int x2, .int x3] : List Value).toArray below meth c H locs 0 0 Q (F0 m 151 ls [.int t0_151]) := by
                  intro t0_151 H locs hP hD hS ls hl hrun
                  rw [f_X6_apart_J151] at hrun
                  refine lv_istore (lv' := [(4, .int t0_151), (0, .ref p_this), (1, .int x1), (2, .int x2), (3, .int x3), (5, .int x5_26)]) hx hb dX6_apart_151 hl (by decide) rfl (fun ls hl => ?_)
                  refine lv_iinc (v := x5_26 + 1) (lv' := [(5, .int (x5_26 + 1)), (4, .int t0_151), (0, .ref p_this), (1, .int x1), (2, .int x2), (3, .int x3)]) hx hb dX6_apart_153 hl (k := 5) rfl rfl (by decide) rfl (fun ls hl => ?_)
                  refine lv_goto (tgt := 26) hx hb dX6_apart_156 (by decide) ?_
                  exact ih26 t0_151 (x5_26 + 1) H locs hP hD hS ls (lv_sub hl [2, 3, 4, 5, 1, 0] rfl) hrun
                refine lv_if_eq (tgt := 149) hx hb dX6_apart_141 (by decide) (fun c_141 => ?_) (fun c_141 => ?_)
                · rw [if_pos c_141] at hrun
                  refine lv_iload hx hb dX6_apart_149 (lv_at hl 5 rfl) ?_
                  exact J151 x4_26 H locs hP hD hS ls (lv_sub hl [1, 2, 3, 4, 6] rfl) hrun
                · rw [if_neg c_141] at hrun
                  refine lv_iload hx hb dX6_apart_144 (lv_at hl 6 rfl) ?_
                  refine lv_goto (tgt := 151) hx hb dX6_apart_146 (by decide) ?_
                  exact J151 x5_26 H locs hP hD hS ls (lv_sub hl [1, 2, 3, 4, 6] rfl) hrun
              refine lv_icmp_lt (tgt := 136) hx hb dX6_apart_109 (by decide) (fun c_109 => ?_) (fun c_109 => ?_)
              · rw [if_pos c_109] at hrun
                refine lv_iconst (v := 0) hx hb dX6_apart_136 (by decide) ?_
                exact J137 0 H locs hP hD hS ls (lv_sub hl [0, 1, 2, 3, 4, 5] rfl) hrun
              · rw [if_neg c_109] at hrun
                refine lv_iload hx hb dX6_apart_112 (lv_at hl 4 rfl) ?_
                refine lv_bipush (v := (-9)) hx hb dX6_apart_114 (by decide) ?_
                refine lv_icmp_eq (tgt := 132) hx hb dX6_apart_116 (by decide) (fun c_116 => ?_) (fun c_116 => ?_)
                · rw [if_pos c_116] at hrun
                  refine lv_iconst (v := 1) hx hb dX6_apart_132 (by decide) ?_
                  refine lv_goto (tgt := 137) hx hb dX6_apart_133 (by decide) ?_
                  exact J137 1 H locs hP hD hS ls (lv_sub hl [0, 1, 2, 3, 4, 5] rfl) hrun
                · rw [if_neg c_116] at hrun
                  refine lv_iload hx hb dX6_apart_119 (lv_at hl 5 rfl) ?_
                  obtain ⟨q121, hq121, hrun⟩ := bind_out hrun
                  have hPc : va_P (dC, dI) vwCl [] H := hP.sub [] rfl
                  have hDc : va_D A [] := hD.sub [] (by decide) rfl
                  have hFc := va_free (wc := []) hD hS hA [] rfl
                  refine va_calli (va_runS (As := [.int x5_26]) (rest := []) ⟨hx, hb, hml, hown, hts⟩ (c_X6_bits l dC dI cI cZ H.size x5_26 q121 hq121) (va_cwS 1 hts gX6_apart_X6_bits rfl rfl rfl (by decide +kernel) ⟨Nat.le_of_ble_eq_true rfl, Nat.le_of_ble_eq_true rfl⟩) ⟨fun a U g mk q => ⟨q.1, PC.mv q.2⟩, fun U hU hW => ⟨rfl, PC.of hU hW hPc hK hDc hN⟩⟩ rfl rfl hl.1 rfl (lv_room (Nat.le_of_ble_eq_true rfl)) dX6_apart_121 ⟨Nat.zero_le _, Nat.zero_le _⟩) hS (fun q _ h => hFc q h) hFc (fun r_121 u t H1 locs ht hvm hw hB hz1 hk1 hS => ?_)
                  obtain ⟨hP1, hD1⟩ := hB
                  try dsimp only at hw
                  rw [hw]
                  rw [ht] at hP1
                  have hP : va_P (dC, dI) vwCl [(p_this, .inr (6, [.int d_dishes, .int d_speakers, .ref p_speaker, .int d_noises, .ref p_noise, .int d_askers, .ref p_asker, .ref p_st, .ref p_images, .ref p_isKept, .long d_trace, .ref p_text, .int d_texted, .int d_cursor, .int d_start, .int d_token, .int d_number, .long d_word, .int d_isWrong, .int d_saidDishes, .ref p_saidMount, .int d_saidSpeakers, .ref p_saidSpeaker, .int d_saidNoises, .ref p_saidNoise, .int d_saidAskers, .ref p_saidAsker, .ref p_room, .int d_couldBe, .int d_couldHere])), (p_st, .inl (cI, 104, .inl d_st))] H1 := join_ro hP hD [] rfl hk1 hP1
                  clear hPc hDc hFc hk1 hz1 hP1 hD1 ht hvm
                  generalize H1 = H at hP hS ⊢
                  refine lv_iload hx hb dX6_apart_124 (lv_at hl 4 rfl) ?_
                  obtain ⟨q126, hq126, hrun⟩ := bind_out hrun
                  have hPc : va_P (dC, dI) vwCl [] H := hP.sub [] rfl
                  have hDc : va_D A [] := hD.sub [] (by decide) rfl
                  have hFc := va_free (wc := []) hD hS hA [] rfl
                  refine va_calli (va_runS (As := [.int x4_26]) (rest := [.int q121]) ⟨hx, hb, hml, hown, hts⟩ (c_X6_bits l dC dI cI cZ H.size x4_26 q126 hq126) (va_cwS 1 hts gX6_apart_X6_bits rfl rfl rfl (by decide +kernel) ⟨Nat.le_of_ble_eq_true rfl, Nat.le_of_ble_eq_true rfl⟩) ⟨fun a U g mk q => ⟨q.1, PC.mv q.2⟩, fun U hU hW => ⟨rfl, PC.of hU hW hPc hK hDc hN⟩⟩ rfl rfl hl.1 rfl (lv_room (Nat.le_of_ble_eq_true rfl)) dX6_apart_126 ⟨Nat.zero_le _, Nat.zero_le _⟩) hS (fun q _ h => hFc q h) hFc (fun r_126 u t H1 locs ht hvm hw hB hz1 hk1 hS => ?_)
                  obtain ⟨hP1, hD1⟩ := hB
                  try dsimp only at hw
                  rw [hw]
                  rw [ht] at hP1
                  have hP : va_P (dC, dI) vwCl [(p_this, .inr (6, [.int d_dishes, .int d_speakers, .ref p_speaker, .int d_noises, .ref p_noise, .int d_askers, .ref p_asker, .ref p_st, .ref p_images, .ref p_isKept, .long d_trace, .ref p_text, .int d_texted, .int d_cursor, .int d_start, .int d_token, .int d_number, .long d_word, .int d_isWrong, .int d_saidDishes, .ref p_saidMount, .int d_saidSpeakers, .ref p_saidSpeaker, .int d_saidNoises, .ref p_saidNoise, .int d_saidAskers, .ref p_saidAsker, .ref p_room, .int d_couldBe, .int d_couldHere])), (p_st, .inl (cI, 104, .inl d_st))] H1 := join_ro hP hD [] rfl hk1 hP1
                  clear hPc hDc hFc hk1 hz1 hP1 hD1 ht hvm
                  generalize H1 = H at hP hS ⊢
                  refine lv_icmp_ge (tgt := 136) hx hb dX6_apart_129 (by decide) (fun c_129 => ?_) (fun c_129 => ?_)
                  · rw [if_pos c_129] at hrun
                    refine lv_iconst (v := 0) hx hb dX6_apart_136 (by decide) ?_
                    exact J137 0 H locs hP hD hS ls (lv_sub hl [0, 1, 2, 3, 4, 5] rfl) hrun
                  · rw [if_neg c_129] at hrun
                    refine lv_iconst (v := 1) hx hb dX6_apart_132 (by decide) ?_
                    refine lv_goto (tgt := 137) hx hb dX6_apart_133 (by decide) ?_
                    exact J137 1 H locs hP hD hS ls (lv_sub hl [0, 1, 2, 3, 4, 5] rfl) hrun
            have L43 : ∀ (n9_43 : Nat) (x6_43 : Int32) (x7_43 : Int32) (H : Heap) (locs : List Loc), va_P (dC, dI) vwCl [(p_this, .inr (6, [.int d_dishes, .int d_speakers, .ref p_speaker, .int d_noises, .ref p_noise, .int d_askers, .ref p_asker, .ref p_st, .ref p_images, .ref p_isKept, .long d_trace, .ref p_text, .int d_texted, .int d_cursor, .int d_start, .int d_token, .int d_number, .long d_word, .int d_isWrong, .int d_saidDishes, .ref p_saidMount, .int d_saidSpeakers, .ref p_saidSpeaker, .int d_saidNoises, .ref p_saidNoise, .int d_saidAskers, .ref p_saidAsker, .ref p_room, .int d_couldBe, .int d_couldHere])), (p_st, .inl (cI, 104, .inl d_st))] H → va_D A [(p_this, .inr (6, [.int d_dishes, .int d_speakers, .ref p_speaker, .int d_noises, .ref p_noise, .int d_askers, .ref p_asker, .ref p_st, .ref p_images, .ref p_isKept, .long d_trace, .ref p_text, .int d_texted, .int d_cursor, .int d_start, .int d_token, .int d_number, .long d_word, .int d_isWrong, .int d_saidDishes, .ref p_saidMount, .int d_saidSpeakers, .ref p_saidSpeaker, .int d_saidNoises, .ref p_saidNoise, .int d_saidAskers, .ref p_saidAsker, .ref p_room, .int d_couldBe, .int d_couldHere])), (p_st, .inl (cI, 104, .inl d_st))] → va_S A s.heap H locs → ∀ ls : Array Slot, lv_has ls 9 [(0, .ref p_this), (1, .int x1), (2, .int x2), (3, .int x3), (4, .int x4_26), (5, .int x5_26), (6, .int x6_43), (7, .int x7_43)] → f_X6_apart_L43 (f_X6_apart_X102 (f_X6_apart_L26 (f_X6_apart_X159 x3) x1 x2 x3 d_dishes d_st n9_26) x1 x2 x3 x4_26 x5_26 d_dishes d_st) x1 x2 x3 x4_26 x5_26 d_dishes d_st n9_43 x6_43 x7_43 = some out → W p l e ({ frames := 3, cells := 0, slots := 0, locals := 63 } : Room) s m ([.ref p_this, .int x1, .int x2, .int x3] : List Value).toArray below meth c H locs 0 0 Q (F0 m 43 ls []) := by
              intro n9_43
              induction n9_43 with
              | zero =>
                intro x6_43 x7_43 H locs hP hD hS ls hl hrun
                rw [f_X6_apart_L43] at hrun
                cases hrun
              | succ n9_43 ih43 =>
                intro x6_43 x7_43 H locs hP hD hS ls hl hrun
                rw [f_X6_apart_L43] at hrun
                refine lv_iload hx hb dX6_apart_43 (lv_at hl 7 rfl) ?_
                refine lv_aload_n hx hb dX6_apart_45 rfl (lv_at hl 0 rfl) ?_
                refine va_get (D := (dC, dI)) (ci := 6) (v := .int d_dishes) (C := RX6) (T := TX6) (N := 30) hx hb hts iwX6 hown hK hP 0 rfl rfl 0 (by decide) (hts (.fieldLink RX6 47 "SkyListenersModel" "dishes" "I") (by decide +kernel)) (fun _ h9 => h9) rfl dX6_apart_46 ?_
                refine lv_icmp_ge (tgt := 102) hx hb dX6_apart_49 (by decide) (fun c_49 => ?_) (fun c_49 => ?_)
                · rw [if_pos c_49] at hrun
                  exact X102 x6_43 H locs hP hD hS ls (lv_sub hl [0, 1, 2, 3, 4, 5, 6] rfl) hrun
                · rw [if_neg c_49] at hrun
                  refine lv_iload_n hx hb dX6_apart_52 rfl (lv_at hl 1 rfl) ?_
                  refine lv_istore (lv' := [(8, .int x1), (0, .ref p_this), (1, .int x1), (2, .int x2), (3, .int x3), (4, .int x4_26), (5, .int x5_26), (6, .int x6_43), (7, .int x7_43)]) hx hb dX6_apart_53 hl (by decide) rfl (fun ls hl => ?_)
                  have X96 : ∀ (x6_96 : Int32) (H : Heap) (locs : List Loc), va_P (dC, dI) vwCl [(p_this, .inr (6, [.int d_dishes, .int d_speakers, .ref p_speaker, .int d_noises, .ref p_noise, .int d_askers, .ref p_asker, .ref p_st, .ref p_images, .ref p_isKept, .long d_trace, .ref p_text, .int d_texted, .int d_cursor, .int d_start, .int d_token, .int d_number, .long d_word, .int d_isWrong, .int d_saidDishes, .ref p_saidMount, .int d_saidSpeakers, .ref p_saidSpeaker, .int d_saidNoises, .ref p_saidNoise, .int d_saidAskers, .ref p_saidAsker, .ref p_room, .int d_couldBe, .int d_couldHere])), (p_st, .inl (cI, 104, .inl d_st))] H → va_D A [(p_this, .inr (6, [.int d_dishes, .int d_speakers, .ref p_speaker, .int d_noises, .ref p_noise, .int d_askers, .ref p_asker, .ref p_st, .ref p_images, .ref p_isKept, .long d_trace, .ref p_text, .int d_texted, .int d_cursor, .int d_start, .int d_token, .int d_number, .long d_word, .int d_isWrong, .int d_saidDishes, .ref p_saidMount, .int d_saidSpeakers, .ref p_saidSpeaker, .int d_saidNoises, .ref p_saidNoise, .int d_saidAskers, .ref p_saidAsker, .ref p_room, .int d_couldBe, .int d_couldHere])), (p_st, .inl (cI, 104, .inl d_st))] → va_S A s.heap H locs → ∀ ls : Array Slot, lv_has ls 9 [(0, .ref p_this), (1, .int x1), (2, .int x2), (3, .int x3), (4, .int x4_26), (5, .int x5_26), (6, .int x6_96), (7, .int x7_43)] → f_X6_apart_X96 (f_X6_apart_L43 (f_X6_apart_X102 (f_X6_apart_L26 (f_X6_apart_X159 x3) x1 x2 x3 d_dishes d_st n9_26) x1 x2 x3 x4_26 x5_26 d_dishes d_st) x1 x2 x3 x4_26 x5_26 d_dishes d_st n9_43) x1 x2 x3 x4_26 x5_26 x7_43 d_dishes d_st x6_96 = some out → W p l e ({ frames := 3, cells := 0, slots := 0, locals := 63 } : Room) s m ([.ref p_this, .int x1, .int x2, .int x3] : List Value).toArray below meth c H locs 0 0 Q (F0 m 96 ls []) := by
                    intro x6_96 H locs hP hD hS ls hl hrun
                    rw [f_X6_apart_X96] at hrun
                    refine lv_iinc (v := x7_43 + 1) (lv' := [(7, .int (x7_43 + 1)), (0, .ref p_this), (1, .int x1), (2, .int x2), (3, .int x3), (4, .int x4_26), (5, .int x5_26), (6, .int x6_96)]) hx hb dX6_apart_96 hl (k := 7) rfl rfl (by decide) rfl (fun ls hl => ?_)
                    refine lv_goto (tgt := 43) hx hb dX6_apart_99 (by decide) ?_
                    exact ih43 x6_96 (x7_43 + 1) H locs hP hD hS ls (lv_sub hl [1, 2, 3, 4, 5, 6, 7, 0] rfl) hrun
                  have L55 : ∀ (n9_55 : Nat) (x6_55 : Int32) (x8_55 : Int32) (H : Heap) (locs : List Loc), va_P (dC, dI) vwCl [(p_this, .inr (6, [.int d_dishes, .int d_speakers, .ref p_speaker, .int d_noises, .ref p_noise, .int d_askers, .ref p_asker, .ref p_st, .ref p_images, .ref p_isKept, .long d_trace, .ref p_text, .int d_texted, .int d_cursor, .int d_start, .int d_token, .int d_number, .long d_word, .int d_isWrong, .int d_saidDishes, .ref p_saidMount, .int d_saidSpeakers, .ref p_saidSpeaker, .int d_saidNoises, .ref p_saidNoise, .int d_saidAskers, .ref p_saidAsker, .ref p_room, .int d_couldBe, .int d_couldHere])), (p_st, .inl (cI, 104, .inl d_st))] H → va_D A [(p_this, .inr (6, [.int d_dishes, .int d_speakers, .ref p_speaker, .int d_noises, .ref p_noise, .int d_askers, .ref p_asker, .ref p_st, .ref p_images, .ref p_isKept, .long d_trace, .ref p_text, .int d_texted, .int d_cursor, .int d_start, .int d_token, .int d_number, .long d_word, .int d_isWrong, .int d_saidDishes, .ref p_saidMount, .int d_saidSpeakers, .ref p_saidSpeaker, .int d_saidNoises, .ref p_saidNoise, .int d_saidAskers, .ref p_saidAsker, .ref p_room, .int d_couldBe, .int d_couldHere])), (p_st, .inl (cI, 104, .inl d_st))] → va_S A s.heap H locs → ∀ ls : Array Slot, lv_has ls 9 [(0, .ref p_this), (1, .int x1), (2, .int x2), (3, .int x3), (4, .int x4_26), (5, .int x5_26), (6, .int x6_55), (7, .int x7_43), (8, .int x8_55)] → f_X6_apart_L55 (f_X6_apart_X96 (f_X6_apart_L43 (f_X6_apart_X102 (f_X6_apart_L26 (f_X6_apart_X159 x3) x1 x2 x3 d_dishes d_st n9_26) x1 x2 x3 x4_26 x5_26 d_dishes d_st) x1 x2 x3 x4_26 x5_26 d_dishes d_st n9_43) x1 x2 x3 x4_26 x5_26 x7_43 d_dishes d_st) x1 x2 x3 x4_26 x5_26 x7_43 d_dishes d_st n9_55 x6_55 x8_55 = some out → W p l e ({ frames := 3, cells := 0, slots := 0, locals := 63 } : Room) s m ([.ref p_this, .int x1, .int x2, .int x3] : List Value).toArray below meth c H locs 0 0 Q (F0 m 55 ls []) := by
                    intro n9_55
                    induction n9_55 with
                    | zero =>
                      intro x6_55 x8_55 H locs hP hD hS ls hl hrun
                      rw [f_X6_apart_L55] at hrun
                      cases hrun
                    | succ n9_55 ih55 =>
                      intro x6_55 x8_55 H locs hP hD hS ls hl hrun
                      rw [f_X6_apart_L55] at hrun
                      refine lv_iload hx hb dX6_apart_55 (lv_at hl 8 rfl) ?_
                      refine lv_iload_n hx hb dX6_apart_57 rfl (lv_at hl 2 rfl) ?_
                      refine lv_icmp_gt (tgt := 96) hx hb dX6_apart_58 (by decide) (fun c_58 => ?_) (fun c_58 => ?_)
                      · rw [if_pos c_58] at hrun
                        exact X96 x6_55 H locs hP hD hS ls (lv_sub hl [0, 1, 2, 3, 4, 5, 6, 7] rfl) hrun
                      · rw [if_neg c_58] at hrun
                        refine lv_iload hx hb dX6_apart_61 (lv_at hl 6 rfl) ?_
                        refine lv_iload hx hb dX6_apart_63 (lv_at hl 5 rfl) ?_
                        refine lv_iload hx hb dX6_apart_65 (lv_at hl 7 rfl) ?_
                        have hPc : va_P (dC, dI) vwCl [] H := hP.sub [] rfl
                        have hDc : va_D A [] := hD.sub [] (by decide) rfl
                        have hFc := va_free (wc := []) hD hS hA [] rfl
                        refine va_calli (va_runS (As := [.int x5_26, .int x7_43]) (rest := [.int x6_55]) ⟨hx, hb, hml, hown, hts⟩ (c_X6_has l dC dI cI cZ H.size x5_26 x7_43 (f_X6_has x5_26 x7_43) rfl) (va_cwS 2 hts gX6_apart_X6_has rfl rfl rfl (by decide +kernel) ⟨Nat.le_of_ble_eq_true rfl, Nat.le_of_ble_eq_true rfl⟩) ⟨fun a U g mk q => ⟨q.1, PC.mv q.2⟩, fun U hU hW => ⟨rfl, PC.of hU hW hPc hK hDc hN⟩⟩ rfl rfl hl.1 rfl (lv_room (Nat.le_of_ble_eq_true rfl)) dX6_apart_67 ⟨Nat.zero_le _, Nat.zero_le _⟩) hS (fun q _ h => hFc q h) hFc (fun r_67 u t H1 locs ht hvm hw hB hz1 hk1 hS => ?_)
                        obtain ⟨hP1, hD1⟩ := hB
                        try dsimp only at hw
                        rw [hw]
                        rw [ht] at hP1
                        have hP : va_P (dC, dI) vwCl [(p_this, .inr (6, [.int d_dishes, .int d_speakers, .ref p_speaker, .int d_noises, .ref p_noise, .int d_askers, .ref p_asker, .ref p_st, .ref p_images, .ref p_isKept, .long d_trace, .ref p_text, .int d_texted, .int d_cursor, .int d_start, .int d_token, .int d_number, .long d_word, .int d_isWrong, .int d_saidDishes, .ref p_saidMount, .int d_saidSpeakers, .ref p_saidSpeaker, .int d_saidNoises, .ref p_saidNoise, .int d_saidAskers, .ref p_saidAsker, .ref p_room, .int d_couldBe, .int d_couldHere])), (p_st, .inl (cI, 104, .inl d_st))] H1 := join_ro hP hD [] rfl hk1 hP1
                        clear hPc hDc hFc hk1 hz1 hP1 hD1 ht hvm
                        generalize H1 = H at hP hS ⊢
                        have J87 : ∀ (t1_87 : Int32) (H : Heap) (locs : List Loc), va_P (dC, dI) vwCl [(p_this, .inr (6, [.int d_dishes, .int d_speakers, .ref p_speaker, .int d_noises, .ref p_noise, .int d_askers, .ref p_asker, .ref p_st, .ref p_images, .ref p_isKept, .long d_trace, .ref p_text, .int d_texted, .int d_cursor, .int d_start, .int d_token, .int d_number, .long d_word, .int d_isWrong, .int d_saidDishes, .ref p_saidMount, .int d_saidSpeakers, .ref p_saidSpeaker, .int d_saidNoises, .ref p_saidNoise, .int d_saidAskers, .ref p_saidAsker, .ref p_room, .int d_couldBe, .int d_couldHere])), (p_st, .inl (cI, 104, .inl d_st))] H → va_D A [(p_this, .inr (6, [.int d_dishes, .int d_speakers, .ref p_speaker, .int d_noises, .ref p_noise, .int d_askers, .ref p_asker, .ref p_st, .ref p_images, .ref p_isKept, .long d_trace, .ref p_text, .int d_texted, .int d_cursor, .int d_start, .int d_token, .int d_number, .long d_word, .int d_isWrong, .int d_saidDishes, .ref p_saidMount, .int d_saidSpeakers, .ref p_saidSpeaker, .int d_saidNoises, .ref p_saidNoise, .int d_saidAskers, .ref p_saidAsker, .ref p_room, .int d_couldBe, .int d_couldHere])), (p_st, .inl (cI, 104, .inl d_st))] → va_S A s.heap H locs → ∀ ls : Array Slot, lv_has ls 9 [(0, .ref p_this), (1, .int x1), (2, .int x2), (3, .int x3), (4, .int x4_26), (5, .int x5_26), (7, .int x7_43), (8, .int x8_55)] → f_X6_apart_J87 (f_X6_apart_L55 (f_X6_apart_X96 (f_X6_apart_L43 (f_X6_apart_X102 (f_X6_apart_L26 (f_X6_apart_X159 x3) x1 x2 x3 d_dishes d_st n9_26) x1 x2 x3 x4_26 x5_26 d_dishes d_st) x1 x2 x3 x4_26 x5_26 d_dishes d_st n9_43) x1 x2 x3 x4_26 x5_26 x7_43 d_dishes d_st) x1 x2 x3 x4_26 x5_26 x7_43 d_dishes d_st n9_55) x1 x2 x3 x4_26 x5_26 x7_43 x8_55 x6_55 d_dishes d_st t1_87 = some out → W p l e ({ frames := 3, cells := 0, slots := 0, locals := 63 } : Room) s m ([.ref p_this, .int x1, .int x2, .int x3] : List Value).toArray below meth c H locs 0 0 Q (F0 m 87 ls [.int t1_87, .int x6_55]) := by
                          intro t1_87 H locs hP hD hS ls hl hrun
                          rw [f_X6_apart_J87] at hrun
                          refine lv_ior hx hb dX6_apart_87 ?_
                          refine lv_istore (lv' := [(6, .int (x6_55 ||| t1_87)), (0, .ref p_this), (1, .int x1), (2, .int x2), (3, .int x3), (4, .int x4_26), (5, .int x5_26), (7, .int x7_43), (8, .int x8_55)]) hx hb dX6_apart_88 hl (by decide) rfl (fun ls hl => ?_)
                          refine lv_iinc (v := x8_55 + 1) (lv' := [(8, .int (x8_55 + 1)), (6, .int (x6_55 ||| t1_87)), (0, .ref p_this), (1, .int x1), (2, .int x2), (3, .int x3), (4, .int x4_26), (5, .int x5_26), (7, .int x7_43)]) hx hb dX6_apart_90 hl (k := 8) rfl rfl (by decide) rfl (fun ls hl => ?_)
                          refine lv_goto (tgt := 55) hx hb dX6_apart_93 (by decide) ?_
                          exact ih55 (x6_55 ||| t1_87) (x8_55 + 1) H locs hP hD hS ls (lv_sub hl [2, 3, 4, 5, 6, 7, 1, 8, 0] rfl) hrun
                        refine lv_if_eq (tgt := 86) hx hb dX6_apart_70 (by decide) (fun c_70 => ?_) (fun c_70 => ?_)
                        · rw [if_pos c_70] at hrun
                          refine lv_iconst (v := 0) hx hb dX6_apart_86 (by decide) ?_
                          exact J87 0 H locs hP hD hS ls (lv_sub hl [0, 1, 2, 3, 4, 5, 7, 8] rfl) hrun
                        · rw [if_neg c_70] at hrun
                          refine lv_iconst (v := 1) hx hb dX6_apart_73 (by decide) ?_
                          refine lv_aload_n hx hb dX6_apart_74 rfl (lv_at hl 0 rfl) ?_
                          refine lv_iload hx hb dX6_apart_75 (lv_at hl 7 rfl) ?_
                          refine lv_iload hx hb dX6_apart_77 (lv_at hl 8 rfl) ?_
                          obtain ⟨q79, hq79, hrun⟩ := bind_out hrun
                          have hPc : va_P (dC, dI) vwCl [(p_this, .inr (6, [.int d_dishes, .int d_speakers, .ref p_speaker, .int d_noises, .ref p_noise, .int d_askers, .ref p_asker, .ref p_st, .ref p_images, .ref p_isKept, .long d_trace, .ref p_text, .int d_texted, .int d_cursor, .int d_start, .int d_token, .int d_number, .long d_word, .int d_isWrong, .int d_saidDishes, .ref p_saidMount, .int d_saidSpeakers, .ref p_saidSpeaker, .int d_saidNoises, .ref p_saidNoise, .int d_saidAskers, .ref p_saidAsker, .ref p_room, .int d_couldBe, .int d_couldHere])), (p_st, .inl (cI, 104, .inl d_st))] H := hP.sub [0, 1] rfl
                          have hDc : va_D A [(p_this, .inr (6, [.int d_dishes, .int d_speakers, .ref p_speaker, .int d_noises, .ref p_noise, .int d_askers, .ref p_asker, .ref p_st, .ref p_images, .ref p_isKept, .long d_trace, .ref p_text, .int d_texted, .int d_cursor, .int d_start, .int d_token, .int d_number, .long d_word, .int d_isWrong, .int d_saidDishes, .ref p_saidMount, .int d_saidSpeakers, .ref p_saidSpeaker, .int d_saidNoises, .ref p_saidNoise, .int d_saidAskers, .ref p_saidAsker, .ref p_room, .int d_couldBe, .int d_couldHere])), (p_st, .inl (cI, 104, .inl d_st))] := hD.sub [0, 1] (by decide) rfl
                          have hFc := va_free (wc := [(p_this, .inr (6, [.int d_dishes, .int d_speakers, .ref p_speaker, .int d_noises, .ref p_noise, .int d_askers, .ref p_asker, .ref p_st, .ref p_images, .ref p_isKept, .long d_trace, .ref p_text, .int d_texted, .int d_cursor, .int d_start, .int d_token, .int d_number, .long d_word, .int d_isWrong, .int d_saidDishes, .ref p_saidMount, .int d_saidSpeakers, .ref p_saidSpeaker, .int d_saidNoises, .ref p_saidNoise, .int d_saidAskers, .ref p_saidAsker, .ref p_room, .int d_couldBe, .int d_couldHere])), (p_st, .inl (cI, 104, .inl d_st))]) hD hS hA [0, 1] rfl
                          refine va_calli (va_runV (As := [.int x7_43, .int x8_55]) (rest := [.int 1, .int x6_55]) ⟨hx, hb, hml, hown, hts⟩ (c_X6_looksOf l dC dI cI cZ H.size p_asker p_images p_isKept p_noise p_room p_saidAsker p_saidMount p_saidNoise p_saidSpeaker p_speaker p_st p_text p_this d_dishes d_speakers d_noises d_askers d_trace d_texted d_cursor d_start d_token d_number d_word d_isWrong d_saidDishes d_saidSpeakers d_saidNoises d_saidAskers d_couldBe d_couldHere d_st x7_43 x8_55 q79 hq79) (cwV 2 hts gX6_apart_X6_looksOf rfl rfl rfl (by decide +kernel) ⟨Nat.le_of_ble_eq_true rfl, Nat.le_of_ble_eq_true rfl⟩) ⟨fun a U g mk q => ⟨q.1, PC.mv q.2⟩, va_recv hK hP (ci := 6) (q0 := 0) rfl rfl, fun U hU hW => ⟨rfl, PC.of hU hW hPc hK hDc hN⟩⟩ rfl rfl hl.1 rfl (lv_room (Nat.le_of_ble_eq_true rfl)) dX6_apart_79 ⟨Nat.zero_le _, Nat.zero_le _⟩) hS (fun q _ h => hFc q h) hFc (fun r_79 u t H1 locs ht hvm hw hB hz1 hk1 hS => ?_)
                          obtain ⟨hP1, hD1⟩ := hB
                          try dsimp only at hw
                          rw [hw]
                          rw [ht] at hP1
                          have hP : va_P (dC, dI) vwCl [(p_this, .inr (6, [.int d_dishes, .int d_speakers, .ref p_speaker, .int d_noises, .ref p_noise, .int d_askers, .ref p_asker, .ref p_st, .ref p_images, .ref p_isKept, .long d_trace, .ref p_text, .int d_texted, .int d_cursor, .int d_start, .int d_token, .int d_number, .long d_word, .int d_isWrong, .int d_saidDishes, .ref p_saidMount, .int d_saidSpeakers, .ref p_saidSpeaker, .int d_saidNoises, .ref p_saidNoise, .int d_saidAskers, .ref p_saidAsker, .ref p_room, .int d_couldBe, .int d_couldHere])), (p_st, .inl (cI, 104, .inl d_st))] H1 := join_ro hP hD [0, 1] rfl hk1 hP1
                          clear hPc hDc hFc hk1 hz1 hP1 hD1 ht hvm
                          generalize H1 = H at hP hS ⊢
                          refine lv_ishl hx hb dX6_apart_82 ?_
                          refine lv_goto (tgt := 87) hx hb dX6_apart_83 (by decide) ?_
                          exact J87 (1 <<< (q79 &&& 31)) H locs hP hD hS ls (lv_sub hl [0, 1, 2, 3, 4, 5, 7, 8] rfl) hrun
                  exact L55 FU x6_43 x1 H locs hP hD hS ls (lv_sub hl [1, 2, 3, 4, 5, 6, 7, 8, 0] rfl) hrun
            exact L43 FU 0 0 H locs hP hD hS ls (lv_sub hl [2, 3, 4, 5, 6, 7, 1, 0] rfl) hrun
      exact L26 FU (-9) 0 H locs hP hD hS ls (lv_sub hl [2, 3, 4, 5, 1, 0] rfl) hrun
    · rw [if_pos c_14] at hrun
      refine lv_iconst (v := (-1)) hx hb dX6_apart_17 (by decide) ?_
      have hrun := Option.some.inj hrun
      subst hrun
      rw [hQ]
      exact W.iret (v := (-1)) hx hb hr (fun t ht hW => ⟨⟨(-1), (), rfl, rfl, by rw [ht]; exact hP, hD⟩, hS.F ht⟩) hS.2.2 dX6_apart_18
-- SkyListenersModel.heard
def f_X6_heard (d_dishes : Int32) (d_st : Nat → Int32) (x1 : Int32) (x2 : Int32) (x3 : Int32) (x4 : Int32) : Option (Int32 × (Nat → Int32)) := (if (f_X6_isHour x1) = 0 then (some ((-1), d_st)) else (if (f_X6_isDish d_dishes x2) = 0 then (some ((-1), d_st)) else (if (f_X6_isNote x3) = 0 then (some ((-1), d_st)) else (if (f_X6_in x4 0 1) = 0 then (some ((-1), d_st)) else (if (d_st (Int32.toNatClampNeg 1)) = 10 then (some ((-3), d_st)) else (if (44 + (4 * (d_st (Int32.toNatClampNeg 1)))) < 0 ∨ 104 ≤ (44 + (4 * (d_st (Int32.toNatClampNeg 1)))).toNatClampNeg then none else (if ((44 + (4 * (d_st (Int32.toNatClampNeg 1)))) + 1) < 0 ∨ 104 ≤ ((44 + (4 * (d_st (Int32.toNatClampNeg 1)))) + 1).toNatClampNeg then none else (if ((44 + (4 * (d_st (Int32.toNatClampNeg 1)))) + 2) < 0 ∨ 104 ≤ ((44 + (4 * (d_st (Int32.toNatClampNeg 1)))) + 2).toNatClampNeg then none else (if ((44 + (4 * (d_st (Int32.toNatClampNeg 1)))) + 3) < 0 ∨ 104 ≤ ((44 + (4 * (d_st (Int32.toNatClampNeg 1)))) + 3).toNatClampNeg then none else (some ((upd (upd (upd (upd (upd d_st (44 + (4 * (d_st (Int32.toNatClampNeg 1)))).toNatClampNeg x1) ((44 + (4 * (d_st (Int32.toNatClampNeg 1)))) + 1).toNatClampNeg x2) ((44 + (4 * (d_st (Int32.toNatClampNeg 1)))) + 2).toNatClampNeg x3) ((44 + (4 * (d_st (Int32.toNatClampNeg 1)))) + 3).toNatClampNeg x4) (Int32.toNatClampNeg 1) (((upd (upd (upd (upd d_st (44 + (4 * (d_st (Int32.toNatClampNeg 1)))).toNatClampNeg x1) ((44 + (4 * (d_st (Int32.toNatClampNeg 1)))) + 1).toNatClampNeg x2) ((44 + (4 * (d_st (Int32.toNatClampNeg 1)))) + 2).toNatClampNeg x3) ((44 + (4 * (d_st (Int32.toNatClampNeg 1)))) + 3).toNatClampNeg x4) (Int32.toNatClampNeg 1)) + 1)) (Int32.toNatClampNeg 1), upd (upd (upd (upd (upd d_st (44 + (4 * (d_st (Int32.toNatClampNeg 1)))).toNatClampNeg x1) ((44 + (4 * (d_st (Int32.toNatClampNeg 1)))) + 1).toNatClampNeg x2) ((44 + (4 * (d_st (Int32.toNatClampNeg 1)))) + 2).toNatClampNeg x3) ((44 + (4 * (d_st (Int32.toNatClampNeg 1)))) + 3).toNatClampNeg x4) (Int32.toNatClampNeg 1) (((upd (upd (upd (upd d_st (44 + (4 * (d_st (Int32.toNatClampNeg 1)))).toNatClampNeg x1) ((44 + (4 * (d_st (Int32.toNatClampNeg 1)))) + 1).toNatClampNeg x2) ((44 + (4 * (d_st (Int32.toNatClampNeg 1)))) + 2).toNatClampNeg x3) ((44 + (4 * (d_st (Int32.toNatClampNeg 1)))) + 3).toNatClampNeg x4) (Int32.toNatClampNeg 1)) + 1))))))))))))
set_option maxHeartbeats 4000000 in
set_option maxRecDepth 100000 in
theorem c_X6_heard (l : Launch) (dC : Nat → ClassId) (dI : Nat → Nat → Nat) (cI cZ : ClassId) (sz : Nat) (p_asker p_images p_isKept p_noise p_room p_saidAsker p_saidMount p_saidNoise p_saidSpeaker p_speaker p_st p_text p_this : Nat) (d_dishes : Int32) (d_speakers : Int32) (d_noises : Int32) (d_askers : Int32) (d_trace : Int64) (d_texted : Int32) (d_cursor : Int32) (d_start : Int32) (d_token : Int32) (d_number : Int32) (d_word : Int64) (d_isWrong : Int32) (d_saidDishes : Int32) (d_saidSpeakers : Int32) (d_saidNoises : Int32) (d_saidAskers : Int32) (d_couldBe : Int32) (d_couldHere : Int32) (d_st : Nat → Int32) (x1 : Int32) (x2 : Int32) (x3 : Int32) (x4 : Int32) (out : Int32 × (Nat → Int32)) (hrun : f_X6_heard d_dishes d_st x1 x2 x3 x4 = some out) : Met l yX6_heard wsX6_heard ({ frames := 2, cells := 0, slots := 0, locals := 43 } : Room) (va_Pc [.ref p_this, .int x1, .int x2, .int x3, .int x4] (PC dC dI cI cZ sz ([(p_this, .inr (6, [.int d_dishes, .int d_speakers, .ref p_speaker, .int d_noises, .ref p_noise, .int d_askers, .ref p_asker, .ref p_st, .ref p_images, .ref p_isKept, .long d_trace, .ref p_text, .int d_texted, .int d_cursor, .int d_start, .int d_token, .int d_number, .long d_word, .int d_isWrong, .int d_saidDishes, .ref p_saidMount, .int d_saidSpeakers, .ref p_saidSpeaker, .int d_saidNoises, .ref p_saidNoise, .int d_saidAskers, .ref p_saidAsker, .ref p_room, .int d_couldBe, .int d_couldHere])), (p_st, .inl (cI, 104, .inl d_st))] : va_W))) (va_Qi (fun r (_ : Unit) => r = out.1) (fun _ t => va_P (dC, dI) vwCl [(p_this, .inr (6, [.int d_dishes, .int d_speakers, .ref p_speaker, .int d_noises, .ref p_noise, .int d_askers, .ref p_asker, .ref p_st, .ref p_images, .ref p_isKept, .long d_trace, .ref p_text, .int d_texted, .int d_cursor, .int d_start, .int d_token, .int d_number, .long d_word, .int d_isWrong, .int d_saidDishes, .ref p_saidMount, .int d_saidSpeakers, .ref p_saidSpeaker, .int d_saidNoises, .ref p_saidNoise, .int d_saidAskers, .ref p_saidAsker, .ref p_room, .int d_couldBe, .int d_couldHere])), (p_st, .inl (cI, 104, .inl out.2))] t.heap ∧ va_D (va_A ([(p_this, .inr (6, [.int d_dishes, .int d_speakers, .ref p_speaker, .int d_noises, .ref p_noise, .int d_askers, .ref p_asker, .ref p_st, .ref p_images, .ref p_isKept, .long d_trace, .ref p_text, .int d_texted, .int d_cursor, .int d_start, .int d_token, .int d_number, .long d_word, .int d_isWrong, .int d_saidDishes, .ref p_saidMount, .int d_saidSpeakers, .ref p_saidSpeaker, .int d_saidNoises, .ref p_saidNoise, .int d_saidAskers, .ref p_saidAsker, .ref p_room, .int d_couldBe, .int d_couldHere])), (p_st, .inl (cI, 104, .inl d_st))] : va_W) sz) [(p_this, .inr (6, [.int d_dishes, .int d_speakers, .ref p_speaker, .int d_noises, .ref p_noise, .int d_askers, .ref p_asker, .ref p_st, .ref p_images, .ref p_isKept, .long d_trace, .ref p_text, .int d_texted, .int d_cursor, .int d_start, .int d_token, .int d_number, .long d_word, .int d_isWrong, .int d_saidDishes, .ref p_saidMount, .int d_saidSpeakers, .ref p_saidSpeaker, .int d_saidNoises, .ref p_saidNoise, .int d_saidAskers, .ref p_saidAsker, .ref p_room, .int d_couldBe, .int d_couldHere])), (p_st, .inl (cI, 104, .inl out.2))]) (va_A ([(p_this, .inr (6, [.int d_dishes, .int d_speakers, .ref p_speaker, .int d_noises, .ref p_noise, .int d_askers, .ref p_asker, .ref p_st, .ref p_images, .ref p_isKept, .long d_trace, .ref p_text, .int d_texted, .int d_cursor, .int d_start, .int d_token, .int d_number, .long d_word, .int d_isWrong, .int d_saidDishes, .ref p_saidMount, .int d_saidSpeakers, .ref p_saidSpeaker, .int d_saidNoises, .ref p_saidNoise, .int d_saidAskers, .ref p_saidAsker, .ref p_room, .int d_couldBe, .int d_couldHere])), (p_st, .inl (cI, 104, .inl d_st))] : va_W) sz)) 0 0 (va_A ([(p_this, .inr (6, [.int d_dishes, .int d_speakers, .ref p_speaker, .int d_noises, .ref p_noise, .int d_askers, .ref p_asker, .ref p_st, .ref p_images, .ref p_isKept, .long d_trace, .ref p_text, .int d_texted, .int d_cursor, .int d_start, .int d_token, .int d_number, .long d_word, .int d_isWrong, .int d_saidDishes, .ref p_saidMount, .int d_saidSpeakers, .ref p_saidSpeaker, .int d_saidNoises, .ref p_saidNoise, .int d_saidAskers, .ref p_saidAsker, .ref p_room, .int d_couldBe, .int d_couldHere])), (p_st, .inl (cI, 104, .inl d_st))] : va_W) sz) := by
  refine Met.ofW (cc := cX6_heard) (maxL := 6) (ret := (some .int)) (by decide) rfl ?_
  intro p e s m args below meth c s₁ B hml hv
  obtain ⟨rfl, hsz, hP, hK, hD0, hN⟩ := hv
  have hx := B.exec
  have hb := B.bytes
  have hr := B.returns
  have hts := atoms_spec (ws := wsX6_heard) B.pre
  have hown : s.vm.findClass RX6 = some m.cls := findClass_of_methodNamed B.named
  have hlocks := B.notSynchronized
  subst hsz
  have hD := hD0.self (sz := s.heap.size)
  generalize hAe : va_A ([(p_this, .inr (6, [.int d_dishes, .int d_speakers, .ref p_speaker, .int d_noises, .ref p_noise, .int d_askers, .ref p_asker, .ref p_st, .ref p_images, .ref p_isKept, .long d_trace, .ref p_text, .int d_texted, .int d_cursor, .int d_start, .int d_token, .int d_number, .long d_word, .int d_isWrong, .int d_saidDishes, .ref p_saidMount, .int d_saidSpeakers, .ref p_saidSpeaker, .int d_saidNoises, .ref p_saidNoise, .int d_saidAskers, .ref p_saidAsker, .ref p_room, .int d_couldBe, .int d_couldHere])), (p_st, .inl (cI, 104, .inl d_st))] : va_W) s.heap.size = A at hD ⊢
  have hA : ∀ q : Nat, s.heap.size ≤ q → A q := fun q h => by rw [← hAe]; exact Or.inr h
  have hS : va_S A s.heap s.heap [] := va_S.rf
  refine W_abs (fun Q hQ => ?_)
  have hl := lv_entry ([.ref p_this, .int x1, .int x2, .int x3, .int x4]) (n := 6) (Nat.le_of_ble_eq_true rfl)
  rw [lg_entry_eq]
  generalize (lg_sl ([.ref p_this, .int x1, .int x2, .int x3, .int x4]) ++ List.replicate (6 - (lg_sl ([.ref p_this, .int x1, .int x2, .int x3, .int x4])).length) Slot.unset).toArray = ls at hl ⊢
  have hl : lv_has ls 6 [(0, .ref p_this), (1, .int x1), (2, .int x2), (3, .int x3), (4, .int x4)] := hl
  rw [f_X6_heard] at hrun
  refine W_start (ws := [(p_this, .inr (6, [.int d_dishes, .int d_speakers, .ref p_speaker, .int d_noises, .ref p_noise, .int d_askers, .ref p_asker, .ref p_st, .ref p_images, .ref p_isKept, .long d_trace, .ref p_text, .int d_texted, .int d_cursor, .int d_start, .int d_token, .int d_number, .long d_word, .int d_isWrong, .int d_saidDishes, .ref p_saidMount, .int d_saidSpeakers, .ref p_saidSpeaker, .int d_saidNoises, .ref p_saidNoise, .int d_saidAskers, .ref p_saidAsker, .ref p_room, .int d_couldBe, .int d_couldHere])), (p_st, .inl (cI, 104, .inl d_st))]) hP hS (fun H locs hP hS => ?_)
  have iwX6 : ∀ w ∈ wsX60, w ∈ wsX6_heard := by decide +kernel
  refine lv_iload_n hx hb dX6_heard_0 rfl (lv_at hl 1 rfl) ?_
  have hPc : va_P (dC, dI) vwCl [] H := hP.sub [] rfl
  have hDc : va_D A [] := hD.sub [] (by decide) rfl
  have hFc := va_free (wc := []) hD hS hA [] rfl
  refine va_calli (va_runS (As := [.int x1]) (rest := []) ⟨hx, hb, hml, hown, hts⟩ (c_X6_isHour l dC dI cI cZ H.size x1 (f_X6_isHour x1) rfl) (va_cwS 1 hts gX6_heard_X6_isHour rfl rfl rfl (by decide +kernel) ⟨Nat.le_of_ble_eq_true rfl, Nat.le_of_ble_eq_true rfl⟩) ⟨fun a U g mk q => ⟨q.1, PC.mv q.2⟩, fun U hU hW => ⟨rfl, PC.of hU hW hPc hK hDc hN⟩⟩ rfl rfl hl.1 rfl (lv_room (Nat.le_of_ble_eq_true rfl)) dX6_heard_1 ⟨Nat.zero_le _, Nat.zero_le _⟩) hS (fun q _ h => hFc q h) hFc (fun r_1 u t H1 locs ht hvm hw hB hz1 hk1 hS => ?_)
  obtain ⟨hP1, hD1⟩ := hB
  try dsimp only at hw
  rw [hw]
  rw [ht] at hP1
  have hP : va_P (dC, dI) vwCl [(p_this, .inr (6, [.int d_dishes, .int d_speakers, .ref p_speaker, .int d_noises, .ref p_noise, .int d_askers, .ref p_asker, .ref p_st, .ref p_images, .ref p_isKept, .long d_trace, .ref p_text, .int d_texted, .int d_cursor, .int d_start, .int d_token, .int d_number, .long d_word, .int d_isWrong, .int d_saidDishes, .ref p_saidMount, .int d_saidSpeakers, .ref p_saidSpeaker, .int d_saidNoises, .ref p_saidNoise, .int d_saidAskers, .ref p_saidAsker, .ref p_room, .int d_couldBe, .int d_couldHere])), (p_st, .inl (cI, 104, .inl d_st))] H1 := join_ro hP hD [] rfl hk1 hP1
  clear hPc hDc hFc hk1 hz1 hP1 hD1 ht hvm
  generalize H1 = H at hP hS ⊢
  refine lv_if_eq (tgt := 32) hx hb dX6_heard_4 (by decide) (fun c_4 => ?_) (fun c_4 => ?_)
  · rw [if_pos c_4] at hrun
    refine lv_iconst (v := (-1)) hx hb dX6_heard_32 (by decide) ?_
    have hrun := Option.some.inj hrun
    subst hrun
    rw [hQ]
    exact W.iret (v := (-1)) hx hb hr (fun t ht hW => ⟨⟨(-1), (), rfl, rfl, by rw [ht]; exact hP, hD⟩, hS.F ht⟩) hS.2.2 dX6_heard_33
  · rw [if_neg c_4] at hrun
    refine lv_aload_n hx hb dX6_heard_7 rfl (lv_at hl 0 rfl) ?_
    refine lv_iload_n hx hb dX6_heard_8 rfl (lv_at hl 2 rfl) ?_
    have hPc : va_P (dC, dI) vwCl [(p_this, .inr (6, [.int d_dishes, .int d_speakers, .ref p_speaker, .int d_noises, .ref p_noise, .int d_askers, .ref p_asker, .ref p_st, .ref p_images, .ref p_isKept, .long d_trace, .ref p_text, .int d_texted, .int d_cursor, .int d_start, .int d_token, .int d_number, .long d_word, .int d_isWrong, .int d_saidDishes, .ref p_saidMount, .int d_saidSpeakers, .ref p_saidSpeaker, .int d_saidNoises, .ref p_saidNoise, .int d_saidAskers, .ref p_saidAsker, .ref p_room, .int d_couldBe, .int d_couldHere]))] H := hP.sub [0] rfl
    have hDc : va_D A [(p_this, .inr (6, [.int d_dishes, .int d_speakers, .ref p_speaker, .int d_noises, .ref p_noise, .int d_askers, .ref p_asker, .ref p_st, .ref p_images, .ref p_isKept, .long d_trace, .ref p_text, .int d_texted, .int d_cursor, .int d_start, .int d_token, .int d_number, .long d_word, .int d_isWrong, .int d_saidDishes, .ref p_saidMount, .int d_saidSpeakers, .ref p_saidSpeaker, .int d_saidNoises, .ref p_saidNoise, .int d_saidAskers, .ref p_saidAsker, .ref p_room, .int d_couldBe, .int d_couldHere]))] := hD.sub [0] (by decide) rfl
    have hFc := va_free (wc := [(p_this, .inr (6, [.int d_dishes, .int d_speakers, .ref p_speaker, .int d_noises, .ref p_noise, .int d_askers, .ref p_asker, .ref p_st, .ref p_images, .ref p_isKept, .long d_trace, .ref p_text, .int d_texted, .int d_cursor, .int d_start, .int d_token, .int d_number, .long d_word, .int d_isWrong, .int d_saidDishes, .ref p_saidMount, .int d_saidSpeakers, .ref p_saidSpeaker, .int d_saidNoises, .ref p_saidNoise, .int d_saidAskers, .ref p_saidAsker, .ref p_room, .int d_couldBe, .int d_couldHere]))]) hD hS hA [0] rfl
    refine va_calli (va_runV (As := [.int x2]) (rest := []) ⟨hx, hb, hml, hown, hts⟩ (c_X6_isDish l dC dI cI cZ H.size p_asker p_images p_isKept p_noise p_room p_saidAsker p_saidMount p_saidNoise p_saidSpeaker p_speaker p_st p_text p_this d_dishes d_speakers d_noises d_askers d_trace d_texted d_cursor d_start d_token d_number d_word d_isWrong d_saidDishes d_saidSpeakers d_saidNoises d_saidAskers d_couldBe d_couldHere x2 (f_X6_isDish d_dishes x2) rfl) (cwV 1 hts gX6_heard_X6_isDish rfl rfl rfl (by decide +kernel) ⟨Nat.le_of_ble_eq_true rfl, Nat.le_of_ble_eq_true rfl⟩) ⟨fun a U g mk q => ⟨q.1, PC.mv q.2⟩, va_recv hK hP (ci := 6) (q0 := 0) rfl rfl, fun U hU hW => ⟨rfl, PC.of hU hW hPc hK hDc hN⟩⟩ rfl rfl hl.1 rfl (lv_room (Nat.le_of_ble_eq_true rfl)) dX6_heard_9 ⟨Nat.zero_le _, Nat.zero_le _⟩) hS (fun q _ h => hFc q h) hFc (fun r_9 u t H1 locs ht hvm hw hB hz1 hk1 hS => ?_)
    obtain ⟨hP1, hD1⟩ := hB
    try dsimp only at hw
    rw [hw]
    rw [ht] at hP1
    have hP : va_P (dC, dI) vwCl [(p_this, .inr (6, [.int d_dishes, .int d_speakers, .ref p_speaker, .int d_noises, .ref p_noise, .int d_askers, .ref p_asker, .ref p_st, .ref p_images, .ref p_isKept, .long d_trace, .ref p_text, .int d_texted, .int d_cursor, .int d_start, .int d_token, .int d_number, .long d_word, .int d_isWrong, .int d_saidDishes, .ref p_saidMount, .int d_saidSpeakers, .ref p_saidSpeaker, .int d_saidNoises, .ref p_saidNoise, .int d_saidAskers, .ref p_saidAsker, .ref p_room, .int d_couldBe, .int d_couldHere])), (p_st, .inl (cI, 104, .inl d_st))] H1 := join_ro hP hD [0] rfl hk1 hP1
    clear hPc hDc hFc hk1 hz1 hP1 hD1 ht hvm
    generalize H1 = H at hP hS ⊢
    refine lv_if_eq (tgt := 32) hx hb dX6_heard_12 (by decide) (fun c_12 => ?_) (fun c_12 => ?_)
    · rw [if_pos c_12] at hrun
      refine lv_iconst (v := (-1)) hx hb dX6_heard_32 (by decide) ?_
      have hrun := Option.some.inj hrun
      subst hrun
      rw [hQ]
      exact W.iret (v := (-1)) hx hb hr (fun t ht hW => ⟨⟨(-1), (), rfl, rfl, by rw [ht]; exact hP, hD⟩, hS.F ht⟩) hS.2.2 dX6_heard_33
    · rw [if_neg c_12] at hrun
      refine lv_iload_n hx hb dX6_heard_15 rfl (lv_at hl 3 rfl) ?_
      have hPc : va_P (dC, dI) vwCl [] H := hP.sub [] rfl
      have hDc : va_D A [] := hD.sub [] (by decide) rfl
      have hFc := va_free (wc := []) hD hS hA [] rfl
      refine va_calli (va_runS (As := [.int x3]) (rest := []) ⟨hx, hb, hml, hown, hts⟩ (c_X6_isNote l dC dI cI cZ H.size x3 (f_X6_isNote x3) rfl) (va_cwS 1 hts gX6_heard_X6_isNote rfl rfl rfl (by decide +kernel) ⟨Nat.le_of_ble_eq_true rfl, Nat.le_of_ble_eq_true rfl⟩) ⟨fun a U g mk q => ⟨q.1, PC.mv q.2⟩, fun U hU hW => ⟨rfl, PC.of hU hW hPc hK hDc hN⟩⟩ rfl rfl hl.1 rfl (lv_room (Nat.le_of_ble_eq_true rfl)) dX6_heard_16 ⟨Nat.zero_le _, Nat.zero_le _⟩) hS (fun q _ h => hFc q h) hFc (fun r_16 u t H1 locs ht hvm hw hB hz1 hk1 hS => ?_)
      obtain ⟨hP1, hD1⟩ := hB
      try dsimp only at hw
      rw [hw]
      rw [ht] at hP1
      have hP : va_P (dC, dI) vwCl [(p_this, .inr (6, [.int d_dishes, .int d_speakers, .ref p_speaker, .int d_noises, .ref p_noise, .int d_askers, .ref p_asker, .ref p_st, .ref p_images, .ref p_isKept, .long d_trace, .ref p_text, .int d_texted, .int d_cursor, .int d_start, .int d_token, .int d_number, .long d_word, .int d_isWrong, .int d_saidDishes, .ref p_saidMount, .int d_saidSpeakers, .ref p_saidSpeaker, .int d_saidNoises, .ref p_saidNoise, .int d_saidAskers, .ref p_saidAsker, .ref p_room, .int d_couldBe, .int d_couldHere])), (p_st, .inl (cI, 104, .inl d_st))] H1 := join_ro hP hD [] rfl hk1 hP1
      clear hPc hDc hFc hk1 hz1 hP1 hD1 ht hvm
      generalize H1 = H at hP hS ⊢
      refine lv_if_eq (tgt := 32) hx hb dX6_heard_19 (by decide) (fun c_19 => ?_) (fun c_19 => ?_)
      · rw [if_pos c_19] at hrun
        refine lv_iconst (v := (-1)) hx hb dX6_heard_32 (by decide) ?_
        have hrun := Option.some.inj hrun
        subst hrun
        rw [hQ]
        exact W.iret (v := (-1)) hx hb hr (fun t ht hW => ⟨⟨(-1), (), rfl, rfl, by rw [ht]; exact hP, hD⟩, hS.F ht⟩) hS.2.2 dX6_heard_33
      · rw [if_neg c_19] at hrun
        refine lv_iload hx hb dX6_heard_22 (lv_at hl 4 rfl) ?_
        refine lv_iconst (v := 0) hx hb dX6_heard_24 (by decide) ?_
        refine lv_iconst (v := 1) hx hb dX6_heard_25 (by decide) ?_
        have hPc : va_P (dC, dI) vwCl [] H := hP.sub [] rfl
        have hDc : va_D A [] := hD.sub [] (by decide) rfl
        have hFc := va_free (wc := []) hD hS hA [] rfl
        refine va_calli (va_runS (As := [.int x4, .int 0, .int 1]) (rest := []) ⟨hx, hb, hml, hown, hts⟩ (c_X6_in l dC dI cI cZ H.size x4 0 1 (f_X6_in x4 0 1) rfl) (va_cwS 3 hts gX6_heard_X6_in rfl rfl rfl (by decide +kernel) ⟨Nat.le_of_ble_eq_true rfl, Nat.le_of_ble_eq_true rfl⟩) ⟨fun a U g mk q => ⟨q.1, PC.mv q.2⟩, fun U hU hW => ⟨rfl, PC.of hU hW hPc hK hDc hN⟩⟩ rfl rfl hl.1 rfl (lv_room (Nat.le_of_ble_eq_true rfl)) dX6_heard_26 ⟨Nat.zero_le _, Nat.zero_le _⟩) hS (fun q _ h => hFc q h) hFc (fun r_26 u t H1 locs ht hvm hw hB hz1 hk1 hS => ?_)
        obtain ⟨hP1, hD1⟩ := hB
        try dsimp only at hw
        rw [hw]
        rw [ht] at hP1
        have hP : va_P (dC, dI) vwCl [(p_this, .inr (6, [.int d_dishes, .int d_speakers, .ref p_speaker, .int d_noises, .ref p_noise, .int d_askers, .ref p_asker, .ref p_st, .ref p_images, .ref p_isKept, .long d_trace, .ref p_text, .int d_texted, .int d_cursor, .int d_start, .int d_token, .int d_number, .long d_word, .int d_isWrong, .int d_saidDishes, .ref p_saidMount, .int d_saidSpeakers, .ref p_saidSpeaker, .int d_saidNoises, .ref p_saidNoise, .int d_saidAskers, .ref p_saidAsker, .ref p_room, .int d_couldBe, .int d_couldHere])), (p_st, .inl (cI, 104, .inl d_st))] H1 := join_ro hP hD [] rfl hk1 hP1
        clear hPc hDc hFc hk1 hz1 hP1 hD1 ht hvm
        generalize H1 = H at hP hS ⊢
        refine lv_if_ne (tgt := 34) hx hb dX6_heard_29 (by decide) (fun c_29 => ?_) (fun c_29 => ?_)
        · rw [if_neg c_29] at hrun
          refine lv_aload_n hx hb dX6_heard_34 rfl (lv_at hl 0 rfl) ?_
          refine va_get (D := (dC, dI)) (ci := 6) (v := .ref p_st) (C := RX6) (T := TX6) (N := 30) hx hb hts iwX6 hown hK hP 0 rfl rfl 7 (by decide) (hts (.fieldLink RX6 19 "SkyListenersModel" "st" "[I") (by decide +kernel)) (fun _ h9 => h9) rfl dX6_heard_35 ?_
          refine lv_iconst (v := 1) hx hb dX6_heard_38 (by decide) ?_
          refine va_iald hx hb hK hP 1 0 rfl rfl (vp_lit (by decide) (by decide)) dX6_heard_39 ?_
          refine lv_bipush (v := 10) hx hb dX6_heard_40 (by decide) ?_
          refine lv_icmp_ne (tgt := 48) hx hb dX6_heard_42 (by decide) (fun c_42 => ?_) (fun c_42 => ?_)
          · rw [if_neg c_42] at hrun
            refine lv_bipush (v := 44) hx hb dX6_heard_48 (by decide) ?_
            refine lv_iconst (v := 4) hx hb dX6_heard_50 (by decide) ?_
            refine lv_aload_n hx hb dX6_heard_51 rfl (lv_at hl 0 rfl) ?_
            refine va_get (D := (dC, dI)) (ci := 6) (v := .ref p_st) (C := RX6) (T := TX6) (N := 30) hx hb hts iwX6 hown hK hP 0 rfl rfl 7 (by decide) (hts (.fieldLink RX6 19 "SkyListenersModel" "st" "[I") (by decide +kernel)) (fun _ h9 => h9) rfl dX6_heard_52 ?_
            refine lv_iconst (v := 1) hx hb dX6_heard_55 (by decide) ?_
            refine va_iald hx hb hK hP 1 0 rfl rfl (vp_lit (by decide) (by decide)) dX6_heard_56 ?_
            refine lv_imul hx hb dX6_heard_57 ?_
            refine lv_iadd hx hb dX6_heard_58 ?_
            refine lv_istore (lv' := [(5, .int (44 + (4 * (d_st (Int32.toNatClampNeg 1))))), (0, .ref p_this), (1, .int x1), (2, .int x2), (3, .int x3), (4, .int x4)]) hx hb dX6_heard_59 hl (by decide) rfl (fun ls hl => ?_)
            refine lv_aload_n hx hb dX6_heard_61 rfl (lv_at hl 1 rfl) ?_
            refine va_get (D := (dC, dI)) (ci := 6) (v := .ref p_st) (C := RX6) (T := TX6) (N := 30) hx hb hts iwX6 hown hK hP 0 rfl rfl 7 (by decide) (hts (.fieldLink RX6 19 "SkyListenersModel" "st" "[I") (by decide +kernel)) (fun _ h9 => h9) rfl dX6_heard_62 ?_
            refine lv_iload hx hb dX6_heard_65 (lv_at hl 0 rfl) ?_
            refine lv_iload_n hx hb dX6_heard_67 rfl (lv_at hl 2 rfl) ?_
            rcases Classical.em ((44 + (4 * (d_st (Int32.toNatClampNeg 1)))) < 0 ∨ 104 ≤ (44 + (4 * (d_st (Int32.toNatClampNeg 1)))).toNatClampNeg) with g_68 | g_68
            · rw [if_pos g_68] at hrun; cases hrun
            rw [if_neg g_68] at hrun
            refine va_iast hx hb hK hP hD hS 1 0 rfl rfl g_68 dX6_heard_68 (fun H locs hP hD hS => ?_)
            have hP : va_P (dC, dI) vwCl [(p_this, .inr (6, [.int d_dishes, .int d_speakers, .ref p_speaker, .int d_noises, .ref p_noise, .int d_askers, .ref p_asker, .ref p_st, .ref p_images, .ref p_isKept, .long d_trace, .ref p_text, .int d_texted, .int d_cursor, .int d_start, .int d_token, .int d_number, .long d_word, .int d_isWrong, .int d_saidDishes, .ref p_saidMount, .int d_saidSpeakers, .ref p_saidSpeaker, .int d_saidNoises, .ref p_saidNoise, .int d_saidAskers, .ref p_saidAsker, .ref p_room, .int d_couldBe, .int d_couldHere])), (p_st, .inl (cI, 104, .inl (upd d_st (44 + (4 * (d_st (Int32.toNatClampNeg 1)))).toNatClampNeg x1)))] H := hP
            have hD : va_D A [(p_this, .inr (6, [.int d_dishes, .int d_speakers, .ref p_speaker, .int d_noises, .ref p_noise, .int d_askers, .ref p_asker, .ref p_st, .ref p_images, .ref p_isKept, .long d_trace, .ref p_text, .int d_texted, .int d_cursor, .int d_start, .int d_token, .int d_number, .long d_word, .int d_isWrong, .int d_saidDishes, .ref p_saidMount, .int d_saidSpeakers, .ref p_saidSpeaker, .int d_saidNoises, .ref p_saidNoise, .int d_saidAskers, .ref p_saidAsker, .ref p_room, .int d_couldBe, .int d_couldHere])), (p_st, .inl (cI, 104, .inl (upd d_st (44 + (4 * (d_st (Int32.toNatClampNeg 1)))).toNatClampNeg x1)))] := hD
            refine lv_aload_n hx hb dX6_heard_69 rfl (lv_at hl 1 rfl) ?_
            refine va_get (D := (dC, dI)) (ci := 6) (v := .ref p_st) (C := RX6) (T := TX6) (N := 30) hx hb hts iwX6 hown hK hP 0 rfl rfl 7 (by decide) (hts (.fieldLink RX6 19 "SkyListenersModel" "st" "[I") (by decide +kernel)) (fun _ h9 => h9) rfl dX6_heard_70 ?_
            refine lv_iload hx hb dX6_heard_73 (lv_at hl 0 rfl) ?_
            refine lv_iconst (v := 1) hx hb dX6_heard_75 (by decide) ?_
            refine lv_iadd hx hb dX6_heard_76 ?_
            refine lv_iload_n hx hb dX6_heard_77 rfl (lv_at hl 3 rfl) ?_
            rcases Classical.em (((44 + (4 * (d_st (Int32.toNatClampNeg 1)))) + 1) < 0 ∨ 104 ≤ ((44 + (4 * (d_st (Int32.toNatClampNeg 1)))) + 1).toNatClampNeg) with g_78 | g_78
            · rw [if_pos g_78] at hrun; cases hrun
            rw [if_neg g_78] at hrun
            refine va_iast hx hb hK hP hD hS 1 0 rfl rfl g_78 dX6_heard_78 (fun H locs hP hD hS => ?_)
            have hP : va_P (dC, dI) vwCl [(p_this, .inr (6, [.int d_dishes, .int d_speakers, .ref p_speaker, .int d_noises, .ref p_noise, .int d_askers, .ref p_asker, .ref p_st, .ref p_images, .ref p_isKept, .long d_trace, .ref p_text, .int d_texted, .int d_cursor, .int d_start, .int d_token, .int d_number, .long d_word, .int d_isWrong, .int d_saidDishes, .ref p_saidMount, .int d_saidSpeakers, .ref p_saidSpeaker, .int d_saidNoises, .ref p_saidNoise, .int d_saidAskers, .ref p_saidAsker, .ref p_room, .int d_couldBe, .int d_couldHere])), (p_st, .inl (cI, 104, .inl (upd (upd d_st (44 + (4 * (d_st (Int32.toNatClampNeg 1)))).toNatClampNeg x1) ((44 + (4 * (d_st (Int32.toNatClampNeg 1)))) + 1).toNatClampNeg x2)))] H := hP
            have hD : va_D A [(p_this, .inr (6, [.int d_dishes, .int d_speakers, .ref p_speaker, .int d_noises, .ref p_noise, .int d_askers, .ref p_asker, .ref p_st, .ref p_images, .ref p_isKept, .long d_trace, .ref p_text, .int d_texted, .int d_cursor, .int d_start, .int d_token, .int d_number, .long d_word, .int d_isWrong, .int d_saidDishes, .ref p_saidMount, .int d_saidSpeakers, .ref p_saidSpeaker, .int d_saidNoises, .ref p_saidNoise, .int d_saidAskers, .ref p_saidAsker, .ref p_room, .int d_couldBe, .int d_couldHere])), (p_st, .inl (cI, 104, .inl (upd (upd d_st (44 + (4 * (d_st (Int32.toNatClampNeg 1)))).toNatClampNeg x1) ((44 + (4 * (d_st (Int32.toNatClampNeg 1)))) + 1).toNatClampNeg x2)))] := hD
            refine lv_aload_n hx hb dX6_heard_79 rfl (lv_at hl 1 rfl) ?_
            refine va_get (D := (dC, dI)) (ci := 6) (v := .ref p_st) (C := RX6) (T := TX6) (N := 30) hx hb hts iwX6 hown hK hP 0 rfl rfl 7 (by decide) (hts (.fieldLink RX6 19 "SkyListenersModel" "st" "[I") (by decide +kernel)) (fun _ h9 => h9) rfl dX6_heard_80 ?_
            refine lv_iload hx hb dX6_heard_83 (lv_at hl 0 rfl) ?_
            refine lv_iconst (v := 2) hx hb dX6_heard_85 (by decide) ?_
            refine lv_iadd hx hb dX6_heard_86 ?_
            refine lv_iload_n hx hb dX6_heard_87 rfl (lv_at hl 4 rfl) ?_
            rcases Classical.em (((44 + (4 * (d_st (Int32.toNatClampNeg 1)))) + 2) < 0 ∨ 104 ≤ ((44 + (4 * (d_st (Int32.toNatClampNeg 1)))) + 2).toNatClampNeg) with g_88 | g_88
            · rw [if_pos g_88] at hrun; cases hrun
            rw [if_neg g_88] at hrun
            refine va_iast hx hb hK hP hD hS 1 0 rfl rfl g_88 dX6_heard_88 (fun H locs hP hD hS => ?_)
            have hP : va_P (dC, dI) vwCl [(p_this, .inr (6, [.int d_dishes, .int d_speakers, .ref p_speaker, .int d_noises, .ref p_noise, .int d_askers, .ref p_asker, .ref p_st, .ref p_images, .ref p_isKept, .long d_trace, .ref p_text, .int d_texted, .int d_cursor, .int d_start, .int d_token, .int d_number, .long d_word, .int d_isWrong, .int d_saidDishes, .ref p_saidMount, .int d_saidSpeakers, .ref p_saidSpeaker, .int d_saidNoises, .ref p_saidNoise, .int d_saidAskers, .ref p_saidAsker, .ref p_room, .int d_couldBe, .int d_couldHere])), (p_st, .inl (cI, 104, .inl (upd (upd (upd d_st (44 + (4 * (d_st (Int32.toNatClampNeg 1)))).toNatClampNeg x1) ((44 + (4 * (d_st (Int32.toNatClampNeg 1)))) + 1).toNatClampNeg x2) ((44 + (4 * (d_st (Int32.toNatClampNeg 1)))) + 2).toNatClampNeg x3)))] H := hP
            have hD : va_D A [(p_this, .inr (6, [.int d_dishes, .int d_speakers, .ref p_speaker, .int d_noises, .ref p_noise, .int d_askers, .ref p_asker, .ref p_st, .ref p_images, .ref p_isKept, .long d_trace, .ref p_text, .int d_texted, .int d_cursor, .int d_start, .int d_token, .int d_number, .long d_word, .int d_isWrong, .int d_saidDishes, .ref p_saidMount, .int d_saidSpeakers, .ref p_saidSpeaker, .int d_saidNoises, .ref p_saidNoise, .int d_saidAskers, .ref p_saidAsker, .ref p_room, .int d_couldBe, .int d_couldHere])), (p_st, .inl (cI, 104, .inl (upd (upd (upd d_st (44 + (4 * (d_st (Int32.toNatClampNeg 1)))).toNatClampNeg x1) ((44 + (4 * (d_st (Int32.toNatClampNeg 1)))) + 1).toNatClampNeg x2) ((44 + (4 * (d_st (Int32.toNatClampNeg 1)))) + 2).toNatClampNeg x3)))] := hD
            refine lv_aload_n hx hb dX6_heard_89 rfl (lv_at hl 1 rfl) ?_
            refine va_get (D := (dC, dI)) (ci := 6) (v := .ref p_st) (C := RX6) (T := TX6) (N := 30) hx hb hts iwX6 hown hK hP 0 rfl rfl 7 (by decide) (hts (.fieldLink RX6 19 "SkyListenersModel" "st" "[I") (by decide +kernel)) (fun _ h9 => h9) rfl dX6_heard_90 ?_
            refine lv_iload hx hb dX6_heard_93 (lv_at hl 0 rfl) ?_
            refine lv_iconst (v := 3) hx hb dX6_heard_95 (by decide) ?_
            refine lv_iadd hx hb dX6_heard_96 ?_
            refine lv_iload hx hb dX6_heard_97 (lv_at hl 5 rfl) ?_
            rcases Classical.em (((44 + (4 * (d_st (Int32.toNatClampNeg 1)))) + 3) < 0 ∨ 104 ≤ ((44 + (4 * (d_st (Int32.toNatClampNeg 1)))) + 3).toNatClampNeg) with g_99 | g_99
            · rw [if_pos g_99] at hrun; cases hrun
            rw [if_neg g_99] at hrun
            refine va_iast hx hb hK hP hD hS 1 0 rfl rfl g_99 dX6_heard_99 (fun H locs hP hD hS => ?_)
            have hP : va_P (dC, dI) vwCl [(p_this, .inr (6, [.int d_dishes, .int d_speakers, .ref p_speaker, .int d_noises, .ref p_noise, .int d_askers, .ref p_asker, .ref p_st, .ref p_images, .ref p_isKept, .long d_trace, .ref p_text, .int d_texted, .int d_cursor, .int d_start, .int d_token, .int d_number, .long d_word, .int d_isWrong, .int d_saidDishes, .ref p_saidMount, .int d_saidSpeakers, .ref p_saidSpeaker, .int d_saidNoises, .ref p_saidNoise, .int d_saidAskers, .ref p_saidAsker, .ref p_room, .int d_couldBe, .int d_couldHere])), (p_st, .inl (cI, 104, .inl (upd (upd (upd (upd d_st (44 + (4 * (d_st (Int32.toNatClampNeg 1)))).toNatClampNeg x1) ((44 + (4 * (d_st (Int32.toNatClampNeg 1)))) + 1).toNatClampNeg x2) ((44 + (4 * (d_st (Int32.toNatClampNeg 1)))) + 2).toNatClampNeg x3) ((44 + (4 * (d_st (Int32.toNatClampNeg 1)))) + 3).toNatClampNeg x4)))] H := hP
            have hD : va_D A [(p_this, .inr (6, [.int d_dishes, .int d_speakers, .ref p_speaker, .int d_noises, .ref p_noise, .int d_askers, .ref p_asker, .ref p_st, .ref p_images, .ref p_isKept, .long d_trace, .ref p_text, .int d_texted, .int d_cursor, .int d_start, .int d_token, .int d_number, .long d_word, .int d_isWrong, .int d_saidDishes, .ref p_saidMount, .int d_saidSpeakers, .ref p_saidSpeaker, .int d_saidNoises, .ref p_saidNoise, .int d_saidAskers, .ref p_saidAsker, .ref p_room, .int d_couldBe, .int d_couldHere])), (p_st, .inl (cI, 104, .inl (upd (upd (upd (upd d_st (44 + (4 * (d_st (Int32.toNatClampNeg 1)))).toNatClampNeg x1) ((44 + (4 * (d_st (Int32.toNatClampNeg 1)))) + 1).toNatClampNeg x2) ((44 + (4 * (d_st (Int32.toNatClampNeg 1)))) + 2).toNatClampNeg x3) ((44 + (4 * (d_st (Int32.toNatClampNeg 1)))) + 3).toNatClampNeg x4)))] := hD
            refine lv_aload_n hx hb dX6_heard_100 rfl (lv_at hl 1 rfl) ?_
            refine va_get (D := (dC, dI)) (ci := 6) (v := .ref p_st) (C := RX6) (T := TX6) (N := 30) hx hb hts iwX6 hown hK hP 0 rfl rfl 7 (by decide) (hts (.fieldLink RX6 19 "SkyListenersModel" "st" "[I") (by decide +kernel)) (fun _ h9 => h9) rfl dX6_heard_101 ?_
            refine lv_iconst (v := 1) hx hb dX6_heard_104 (by decide) ?_
            refine lv_dup2_11 hx hb dX6_heard_105 rfl rfl ?_
            refine va_iald hx hb hK hP 1 0 rfl rfl (vp_lit (by decide) (by decide)) dX6_heard_106 ?_
            refine lv_iconst (v := 1) hx hb dX6_heard_107 (by decide) ?_
            refine lv_iadd hx hb dX6_heard_108 ?_
            refine va_iast hx hb hK hP hD hS 1 0 rfl rfl (vp_lit (by decide) (by decide)) dX6_heard_109 (fun H locs hP hD hS => ?_)
            have hP : va_P (dC, dI) vwCl [(p_this, .inr (6, [.int d_dishes, .int d_speakers, .ref p_speaker, .int d_noises, .ref p_noise, .int d_askers, .ref p_asker, .ref p_st, .ref p_images, .ref p_isKept, .long d_trace, .ref p_text, .int d_texted, .int d_cursor, .int d_start, .int d_token, .int d_number, .long d_word, .int d_isWrong, .int d_saidDishes, .ref p_saidMount, .int d_saidSpeakers, .ref p_saidSpeaker, .int d_saidNoises, .ref p_saidNoise, .int d_saidAskers, .ref p_saidAsker, .ref p_room, .int d_couldBe, .int d_couldHere])), (p_st, .inl (cI, 104, .inl (upd (upd (upd (upd (upd d_st (44 + (4 * (d_st (Int32.toNatClampNeg 1)))).toNatClampNeg x1) ((44 + (4 * (d_st (Int32.toNatClampNeg 1)))) + 1).toNatClampNeg x2) ((44 + (4 * (d_st (Int32.toNatClampNeg 1)))) + 2).toNatClampNeg x3) ((44 + (4 * (d_st (Int32.toNatClampNeg 1)))) + 3).toNatClampNeg x4) (Int32.toNatClampNeg 1) (((upd (upd (upd (upd d_st (44 + (4 * (d_st (Int32.toNatClampNeg 1)))).toNatClampNeg x1) ((44 + (4 * (d_st (Int32.toNatClampNeg 1)))) + 1).toNatClampNeg x2) ((44 + (4 * (d_st (Int32.toNatClampNeg 1)))) + 2).toNatClampNeg x3) ((44 + (4 * (d_st (Int32.toNatClampNeg 1)))) + 3).toNatClampNeg x4) (Int32.toNatClampNeg 1)) + 1))))] H := hP
            have hD : va_D A [(p_this, .inr (6, [.int d_dishes, .int d_speakers, .ref p_speaker, .int d_noises, .ref p_noise, .int d_askers, .ref p_asker, .ref p_st, .ref p_images, .ref p_isKept, .long d_trace, .ref p_text, .int d_texted, .int d_cursor, .int d_start, .int d_token, .int d_number, .long d_word, .int d_isWrong, .int d_saidDishes, .ref p_saidMount, .int d_saidSpeakers, .ref p_saidSpeaker, .int d_saidNoises, .ref p_saidNoise, .int d_saidAskers, .ref p_saidAsker, .ref p_room, .int d_couldBe, .int d_couldHere])), (p_st, .inl (cI, 104, .inl (upd (upd (upd (upd (upd d_st (44 + (4 * (d_st (Int32.toNatClampNeg 1)))).toNatClampNeg x1) ((44 + (4 * (d_st (Int32.toNatClampNeg 1)))) + 1).toNatClampNeg x2) ((44 + (4 * (d_st (Int32.toNatClampNeg 1)))) + 2).toNatClampNeg x3) ((44 + (4 * (d_st (Int32.toNatClampNeg 1)))) + 3).toNatClampNeg x4) (Int32.toNatClampNeg 1) (((upd (upd (upd (upd d_st (44 + (4 * (d_st (Int32.toNatClampNeg 1)))).toNatClampNeg x1) ((44 + (4 * (d_st (Int32.toNatClampNeg 1)))) + 1).toNatClampNeg x2) ((44 + (4 * (d_st (Int32.toNatClampNeg 1)))) + 2).toNatClampNeg x3) ((44 + (4 * (d_st (Int32.toNatClampNeg 1)))) + 3).toNatClampNeg x4) (Int32.toNatClampNeg 1)) + 1))))] := hD
            refine lv_aload_n hx hb dX6_heard_110 rfl (lv_at hl 1 rfl) ?_
            refine va_get (D := (dC, dI)) (ci := 6) (v := .ref p_st) (C := RX6) (T := TX6) (N := 30) hx hb hts iwX6 hown hK hP 0 rfl rfl 7 (by decide) (hts (.fieldLink RX6 19 "SkyListenersModel" "st" "[I") (by decide +kernel)) (fun _ h9 => h9) rfl dX6_heard_111 ?_
            refine lv_iconst (v := 1) hx hb dX6_heard_114 (by decide) ?_
            refine va_iald hx hb hK hP 1 0 rfl rfl (vp_lit (by decide) (by decide)) dX6_heard_115 ?_
            have hrun := Option.some.inj hrun
            subst hrun
            rw [hQ]
            exact W.iret (v := (upd (upd (upd (upd (upd d_st (44 + (4 * (d_st (Int32.toNatClampNeg 1)))).toNatClampNeg x1) ((44 + (4 * (d_st (Int32.toNatClampNeg 1)))) + 1).toNatClampNeg x2) ((44 + (4 * (d_st (Int32.toNatClampNeg 1)))) + 2).toNatClampNeg x3) ((44 + (4 * (d_st (Int32.toNatClampNeg 1)))) + 3).toNatClampNeg x4) (Int32.toNatClampNeg 1) (((upd (upd (upd (upd d_st (44 + (4 * (d_st (Int32.toNatClampNeg 1)))).toNatClampNeg x1) ((44 + (4 * (d_st (Int32.toNatClampNeg 1)))) + 1).toNatClampNeg x2) ((44 + (4 * (d_st (Int32.toNatClampNeg 1)))) + 2).toNatClampNeg x3) ((44 + (4 * (d_st (Int32.toNatClampNeg 1)))) + 3).toNatClampNeg x4) (Int32.toNatClampNeg 1)) + 1)) (Int32.toNatClampNeg 1)) hx hb hr (fun t ht hW => ⟨⟨(upd (upd (upd (upd (upd d_st (44 + (4 * (d_st (Int32.toNatClampNeg 1)))).toNatClampNeg x1) ((44 + (4 * (d_st (Int32.toNatClampNeg 1)))) + 1).toNatClampNeg x2) ((44 + (4 * (d_st (Int32.toNatClampNeg 1)))) + 2).toNatClampNeg x3) ((44 + (4 * (d_st (Int32.toNatClampNeg 1)))) + 3).toNatClampNeg x4) (Int32.toNatClampNeg 1) (((upd (upd (upd (upd d_st (44 + (4 * (d_st (Int32.toNatClampNeg 1)))).toNatClampNeg x1) ((44 + (4 * (d_st (Int32.toNatClampNeg 1)))) + 1).toNatClampNeg x2) ((44 + (4 * (d_st (Int32.toNatClampNeg 1)))) + 2).toNatClampNeg x3) ((44 + (4 * (d_st (Int32.toNatClampNeg 1)))) + 3).toNatClampNeg x4) (Int32.toNatClampNeg 1)) + 1)) (Int32.toNatClampNeg 1), (), rfl, rfl, by rw [ht]; exact hP, hD⟩, hS.F ht⟩) hS.2.2 dX6_heard_116
          · rw [if_pos c_42] at hrun
            refine lv_bipush (v := (-3)) hx hb dX6_heard_45 (by decide) ?_
            have hrun := Option.some.inj hrun
            subst hrun
            rw [hQ]
            exact W.iret (v := (-3)) hx hb hr (fun t ht hW => ⟨⟨(-3), (), rfl, rfl, by rw [ht]; exact hP, hD⟩, hS.F ht⟩) hS.2.2 dX6_heard_47
        · rw [if_pos c_29] at hrun
          refine lv_iconst (v := (-1)) hx hb dX6_heard_32 (by decide) ?_
          have hrun := Option.some.inj hrun
          subst hrun
          rw [hQ]
          exact W.iret (v := (-1)) hx hb hr (fun t ht hW => ⟨⟨(-1), (), rfl, rfl, by rw [ht]; exact hP, hD⟩, hS.F ht⟩) hS.2.2 dX6_heard_33
-- SkyListenersModel.forget
def f_X6_forget (d_st : Nat → Int32) : Int32 × (Nat → Int32) := ((d_st (Int32.toNatClampNeg 1), upd d_st (Int32.toNatClampNeg 1) 0))
set_option maxHeartbeats 4000000 in
set_option maxRecDepth 100000 in
theorem c_X6_forget (l : Launch) (dC : Nat → ClassId) (dI : Nat → Nat → Nat) (cI cZ : ClassId) (sz : Nat) (p_asker p_images p_isKept p_noise p_room p_saidAsker p_saidMount p_saidNoise p_saidSpeaker p_speaker p_st p_text p_this : Nat) (d_dishes : Int32) (d_speakers : Int32) (d_noises : Int32) (d_askers : Int32) (d_trace : Int64) (d_texted : Int32) (d_cursor : Int32) (d_start : Int32) (d_token : Int32) (d_number : Int32) (d_word : Int64) (d_isWrong : Int32) (d_saidDishes : Int32) (d_saidSpeakers : Int32) (d_saidNoises : Int32) (d_saidAskers : Int32) (d_couldBe : Int32) (d_couldHere : Int32) (d_st : Nat → Int32) (out : Int32 × (Nat → Int32)) (hrun : f_X6_forget d_st = out) : Met l yX6_forget wsX6_forget ({ frames := 0, cells := 0, slots := 0, locals := 0 } : Room) (va_Pc [.ref p_this] (PC dC dI cI cZ sz ([(p_this, .inr (6, [.int d_dishes, .int d_speakers, .ref p_speaker, .int d_noises, .ref p_noise, .int d_askers, .ref p_asker, .ref p_st, .ref p_images, .ref p_isKept, .long d_trace, .ref p_text, .int d_texted, .int d_cursor, .int d_start, .int d_token, .int d_number, .long d_word, .int d_isWrong, .int d_saidDishes, .ref p_saidMount, .int d_saidSpeakers, .ref p_saidSpeaker, .int d_saidNoises, .ref p_saidNoise, .int d_saidAskers, .ref p_saidAsker, .ref p_room, .int d_couldBe, .int d_couldHere])), (p_st, .inl (cI, 104, .inl d_st))] : va_W))) (va_Qi (fun r (_ : Unit) => r = out.1) (fun _ t => va_P (dC, dI) vwCl [(p_this, .inr (6, [.int d_dishes, .int d_speakers, .ref p_speaker, .int d_noises, .ref p_noise, .int d_askers, .ref p_asker, .ref p_st, .ref p_images, .ref p_isKept, .long d_trace, .ref p_text, .int d_texted, .int d_cursor, .int d_start, .int d_token, .int d_number, .long d_word, .int d_isWrong, .int d_saidDishes, .ref p_saidMount, .int d_saidSpeakers, .ref p_saidSpeaker, .int d_saidNoises, .ref p_saidNoise, .int d_saidAskers, .ref p_saidAsker, .ref p_room, .int d_couldBe, .int d_couldHere])), (p_st, .inl (cI, 104, .inl out.2))] t.heap ∧ va_D (va_A ([(p_this, .inr (6, [.int d_dishes, .int d_speakers, .ref p_speaker, .int d_noises, .ref p_noise, .int d_askers, .ref p_asker, .ref p_st, .ref p_images, .ref p_isKept, .long d_trace, .ref p_text, .int d_texted, .int d_cursor, .int d_start, .int d_token, .int d_number, .long d_word, .int d_isWrong, .int d_saidDishes, .ref p_saidMount, .int d_saidSpeakers, .ref p_saidSpeaker, .int d_saidNoises, .ref p_saidNoise, .int d_saidAskers, .ref p_saidAsker, .ref p_room, .int d_couldBe, .int d_couldHere])), (p_st, .inl (cI, 104, .inl d_st))] : va_W) sz) [(p_this, .inr (6, [.int d_dishes, .int d_speakers, .ref p_speaker, .int d_noises, .ref p_noise, .int d_askers, .ref p_asker, .ref p_st, .ref p_images, .ref p_isKept, .long d_trace, .ref p_text, .int d_texted, .int d_cursor, .int d_start, .int d_token, .int d_number, .long d_word, .int d_isWrong, .int d_saidDishes, .ref p_saidMount, .int d_saidSpeakers, .ref p_saidSpeaker, .int d_saidNoises, .ref p_saidNoise, .int d_saidAskers, .ref p_saidAsker, .ref p_room, .int d_couldBe, .int d_couldHere])), (p_st, .inl (cI, 104, .inl out.2))]) (va_A ([(p_this, .inr (6, [.int d_dishes, .int d_speakers, .ref p_speaker, .int d_noises, .ref p_noise, .int d_askers, .ref p_asker, .ref p_st, .ref p_images, .ref p_isKept, .long d_trace, .ref p_text, .int d_texted, .int d_cursor, .int d_start, .int d_token, .int d_number, .long d_word, .int d_isWrong, .int d_saidDishes, .ref p_saidMount, .int d_saidSpeakers, .ref p_saidSpeaker, .int d_saidNoises, .ref p_saidNoise, .int d_saidAskers, .ref p_saidAsker, .ref p_room, .int d_couldBe, .int d_couldHere])), (p_st, .inl (cI, 104, .inl d_st))] : va_W) sz)) 0 0 (va_A ([(p_this, .inr (6, [.int d_dishes, .int d_speakers, .ref p_speaker, .int d_noises, .ref p_noise, .int d_askers, .ref p_asker, .ref p_st, .ref p_images, .ref p_isKept, .long d_trace, .ref p_text, .int d_texted, .int d_cursor, .int d_start, .int d_token, .int d_number, .long d_word, .int d_isWrong, .int d_saidDishes, .ref p_saidMount, .int d_saidSpeakers, .ref p_saidSpeaker, .int d_saidNoises, .ref p_saidNoise, .int d_saidAskers, .ref p_saidAsker, .ref p_room, .int d_couldBe, .int d_couldHere])), (p_st, .inl (cI, 104, .inl d_st))] : va_W) sz) := by
  refine Met.ofW (cc := cX6_forget) (maxL := 2) (ret := (some .int)) (by decide) rfl ?_
  intro p e s m args below meth c s₁ B hml hv
  obtain ⟨rfl, hsz, hP, hK, hD0, hN⟩ := hv
  have hx := B.exec
  have hb := B.bytes
  have hr := B.returns
  have hts := atoms_spec (ws := wsX6_forget) B.pre
  have hown : s.vm.findClass RX6 = some m.cls := findClass_of_methodNamed B.named
  have hlocks := B.notSynchronized
  subst hsz
  have hD := hD0.self (sz := s.heap.size)
  generalize hAe : va_A ([(p_this, .inr (6, [.int d_dishes, .int d_speakers, .ref p_speaker, .int d_noises, .ref p_noise, .int d_askers, .ref p_asker, .ref p_st, .ref p_images, .ref p_isKept, .long d_trace, .ref p_text, .int d_texted, .int d_cursor, .int d_start, .int d_token, .int d_number, .long d_word, .int d_isWrong, .int d_saidDishes, .ref p_saidMount, .int d_saidSpeakers, .ref p_saidSpeaker, .int d_saidNoises, .ref p_saidNoise, .int d_saidAskers, .ref p_saidAsker, .ref p_room, .int d_couldBe, .int d_couldHere])), (p_st, .inl (cI, 104, .inl d_st))] : va_W) s.heap.size = A at hD ⊢
  have hA : ∀ q : Nat, s.heap.size ≤ q → A q := fun q h => by rw [← hAe]; exact Or.inr h
  have hS : va_S A s.heap s.heap [] := va_S.rf
  refine W_abs (fun Q hQ => ?_)
  have hl := lv_entry ([.ref p_this]) (n := 2) (Nat.le_of_ble_eq_true rfl)
  rw [lg_entry_eq]
  generalize (lg_sl ([.ref p_this]) ++ List.replicate (2 - (lg_sl ([.ref p_this])).length) Slot.unset).toArray = ls at hl ⊢
  have hl : lv_has ls 2 [(0, .ref p_this)] := hl
  rw [f_X6_forget] at hrun
  refine W_start (ws := [(p_this, .inr (6, [.int d_dishes, .int d_speakers, .ref p_speaker, .int d_noises, .ref p_noise, .int d_askers, .ref p_asker, .ref p_st, .ref p_images, .ref p_isKept, .long d_trace, .ref p_text, .int d_texted, .int d_cursor, .int d_start, .int d_token, .int d_number, .long d_word, .int d_isWrong, .int d_saidDishes, .ref p_saidMount, .int d_saidSpeakers, .ref p_saidSpeaker, .int d_saidNoises, .ref p_saidNoise, .int d_saidAskers, .ref p_saidAsker, .ref p_room, .int d_couldBe, .int d_couldHere])), (p_st, .inl (cI, 104, .inl d_st))]) hP hS (fun H locs hP hS => ?_)
  have iwX6 : ∀ w ∈ wsX60, w ∈ wsX6_forget := by decide +kernel
  refine lv_aload_n hx hb dX6_forget_0 rfl (lv_at hl 0 rfl) ?_
  refine va_get (D := (dC, dI)) (ci := 6) (v := .ref p_st) (C := RX6) (T := TX6) (N := 30) hx hb hts iwX6 hown hK hP 0 rfl rfl 7 (by decide) (hts (.fieldLink RX6 19 "SkyListenersModel" "st" "[I") (by decide +kernel)) (fun _ h9 => h9) rfl dX6_forget_1 ?_
  refine lv_iconst (v := 1) hx hb dX6_forget_4 (by decide) ?_
  refine va_iald hx hb hK hP 1 0 rfl rfl (vp_lit (by decide) (by decide)) dX6_forget_5 ?_
  refine lv_istore_n (lv' := [(1, .int (d_st (Int32.toNatClampNeg 1))), (0, .ref p_this)]) hx hb dX6_forget_6 rfl hl (by decide) rfl (fun ls hl => ?_)
  refine lv_aload_n hx hb dX6_forget_7 rfl (lv_at hl 1 rfl) ?_
  refine va_get (D := (dC, dI)) (ci := 6) (v := .ref p_st) (C := RX6) (T := TX6) (N := 30) hx hb hts iwX6 hown hK hP 0 rfl rfl 7 (by decide) (hts (.fieldLink RX6 19 "SkyListenersModel" "st" "[I") (by decide +kernel)) (fun _ h9 => h9) rfl dX6_forget_8 ?_
  refine lv_iconst (v := 1) hx hb dX6_forget_11 (by decide) ?_
  refine lv_iconst (v := 0) hx hb dX6_forget_12 (by decide) ?_
  refine va_iast hx hb hK hP hD hS 1 0 rfl rfl (vp_lit (by decide) (by decide)) dX6_forget_13 (fun H locs hP hD hS => ?_)
  have hP : va_P (dC, dI) vwCl [(p_this, .inr (6, [.int d_dishes, .int d_speakers, .ref p_speaker, .int d_noises, .ref p_noise, .int d_askers, .ref p_asker, .ref p_st, .ref p_images, .ref p_isKept, .long d_trace, .ref p_text, .int d_texted, .int d_cursor, .int d_start, .int d_token, .int d_number, .long d_word, .int d_isWrong, .int d_saidDishes, .ref p_saidMount, .int d_saidSpeakers, .ref p_saidSpeaker, .int d_saidNoises, .ref p_saidNoise, .int d_saidAskers, .ref p_saidAsker, .ref p_room, .int d_couldBe, .int d_couldHere])), (p_st, .inl (cI, 104, .inl (upd d_st (Int32.toNatClampNeg 1) 0)))] H := hP
  have hD : va_D A [(p_this, .inr (6, [.int d_dishes, .int d_speakers, .ref p_speaker, .int d_noises, .ref p_noise, .int d_askers, .ref p_asker, .ref p_st, .ref p_images, .ref p_isKept, .long d_trace, .ref p_text, .int d_texted, .int d_cursor, .int d_start, .int d_token, .int d_number, .long d_word, .int d_isWrong, .int d_saidDishes, .ref p_saidMount, .int d_saidSpeakers, .ref p_saidSpeaker, .int d_saidNoises, .ref p_saidNoise, .int d_saidAskers, .ref p_saidAsker, .ref p_room, .int d_couldBe, .int d_couldHere])), (p_st, .inl (cI, 104, .inl (upd d_st (Int32.toNatClampNeg 1) 0)))] := hD
  refine lv_iload_n hx hb dX6_forget_14 rfl (lv_at hl 0 rfl) ?_
  have hrun := hrun
  subst hrun
  rw [hQ]
  exact W.iret (v := d_st (Int32.toNatClampNeg 1)) hx hb hr (fun t ht hW => ⟨⟨d_st (Int32.toNatClampNeg 1), (), rfl, rfl, by rw [ht]; exact hP, hD⟩, hS.F ht⟩) hS.2.2 dX6_forget_15
-- SkyListenersModel.isSo
def f_X6_isSo_J39 (x3 : Int32) (t0 : Int32) : Option (Int32) := (if t0 = x3 then (some 1) else (some 0))
def f_X6_isSo (d_st : Nat → Int32) (x1 : Int32) (x2 : Int32) (x3 : Int32) : Option (Int32) := (if ((44 + (4 * x1)) + 2) < 0 ∨ 104 ≤ ((44 + (4 * x1)) + 2).toNatClampNeg then none else (if (d_st ((44 + (4 * x1)) + 2).toNatClampNeg) = x2 then (if ((44 + (4 * x1)) + 3) < 0 ∨ 104 ≤ ((44 + (4 * x1)) + 3).toNatClampNeg then none else (if (d_st ((44 + (4 * x1)) + 3).toNatClampNeg) = 1 then (f_X6_isSo_J39 x3 1) else (f_X6_isSo_J39 x3 0))) else (some 1)))
set_option maxHeartbeats 4000000 in
set_option maxRecDepth 100000 in
theorem c_X6_isSo (l : Launch) (dC : Nat → ClassId) (dI : Nat → Nat → Nat) (cI cZ : ClassId) (sz : Nat) (p_asker p_images p_isKept p_noise p_room p_saidAsker p_saidMount p_saidNoise p_saidSpeaker p_speaker p_st p_text p_this : Nat) (d_dishes : Int32) (d_speakers : Int32) (d_noises : Int32) (d_askers : Int32) (d_trace : Int64) (d_texted : Int32) (d_cursor : Int32) (d_start : Int32) (d_token : Int32) (d_number : Int32) (d_word : Int64) (d_isWrong : Int32) (d_saidDishes : Int32) (d_saidSpeakers : Int32) (d_saidNoises : Int32) (d_saidAskers : Int32) (d_couldBe : Int32) (d_couldHere : Int32) (d_st : Nat → Int32) (x1 : Int32) (x2 : Int32) (x3 : Int32) (out : Int32) (hrun : f_X6_isSo d_st x1 x2 x3 = some out) : Met l yX6_isSo wsX6_isSo ({ frames := 0, cells := 0, slots := 0, locals := 0 } : Room) (va_Pc [.ref p_this, .int x1, .int x2, .int x3] (PC dC dI cI cZ sz ([(p_this, .inr (6, [.int d_dishes, .int d_speakers, .ref p_speaker, .int d_noises, .ref p_noise, .int d_askers, .ref p_asker, .ref p_st, .ref p_images, .ref p_isKept, .long d_trace, .ref p_text, .int d_texted, .int d_cursor, .int d_start, .int d_token, .int d_number, .long d_word, .int d_isWrong, .int d_saidDishes, .ref p_saidMount, .int d_saidSpeakers, .ref p_saidSpeaker, .int d_saidNoises, .ref p_saidNoise, .int d_saidAskers, .ref p_saidAsker, .ref p_room, .int d_couldBe, .int d_couldHere])), (p_st, .inl (cI, 104, .inl d_st))] : va_W))) (va_Qi (fun r (_ : Unit) => r = out) (fun _ t => va_P (dC, dI) vwCl [(p_this, .inr (6, [.int d_dishes, .int d_speakers, .ref p_speaker, .int d_noises, .ref p_noise, .int d_askers, .ref p_asker, .ref p_st, .ref p_images, .ref p_isKept, .long d_trace, .ref p_text, .int d_texted, .int d_cursor, .int d_start, .int d_token, .int d_number, .long d_word, .int d_isWrong, .int d_saidDishes, .ref p_saidMount, .int d_saidSpeakers, .ref p_saidSpeaker, .int d_saidNoises, .ref p_saidNoise, .int d_saidAskers, .ref p_saidAsker, .ref p_room, .int d_couldBe, .int d_couldHere])), (p_st, .inl (cI, 104, .inl d_st))] t.heap ∧ va_D (va_A ([(p_this, .inr (6, [.int d_dishes, .int d_speakers, .ref p_speaker, .int d_noises, .ref p_noise, .int d_askers, .ref p_asker, .ref p_st, .ref p_images, .ref p_isKept, .long d_trace, .ref p_text, .int d_texted, .int d_cursor, .int d_start, .int d_token, .int d_number, .long d_word, .int d_isWrong, .int d_saidDishes, .ref p_saidMount, .int d_saidSpeakers, .ref p_saidSpeaker, .int d_saidNoises, .ref p_saidNoise, .int d_saidAskers, .ref p_saidAsker, .ref p_room, .int d_couldBe, .int d_couldHere])), (p_st, .inl (cI, 104, .inl d_st))] : va_W) sz) [(p_this, .inr (6, [.int d_dishes, .int d_speakers, .ref p_speaker, .int d_noises, .ref p_noise, .int d_askers, .ref p_asker, .ref p_st, .ref p_images, .ref p_isKept, .long d_trace, .ref p_text, .int d_texted, .int d_cursor, .int d_start, .int d_token, .int d_number, .long d_word, .int d_isWrong, .int d_saidDishes, .ref p_saidMount, .int d_saidSpeakers, .ref p_saidSpeaker, .int d_saidNoises, .ref p_saidNoise, .int d_saidAskers, .ref p_saidAsker, .ref p_room, .int d_couldBe, .int d_couldHere])), (p_st, .inl (cI, 104, .inl d_st))]) (va_A ([(p_this, .inr (6, [.int d_dishes, .int d_speakers, .ref p_speaker, .int d_noises, .ref p_noise, .int d_askers, .ref p_asker, .ref p_st, .ref p_images, .ref p_isKept, .long d_trace, .ref p_text, .int d_texted, .int d_cursor, .int d_start, .int d_token, .int d_number, .long d_word, .int d_isWrong, .int d_saidDishes, .ref p_saidMount, .int d_saidSpeakers, .ref p_saidSpeaker, .int d_saidNoises, .ref p_saidNoise, .int d_saidAskers, .ref p_saidAsker, .ref p_room, .int d_couldBe, .int d_couldHere])), (p_st, .inl (cI, 104, .inl d_st))] : va_W) sz)) 0 0 (va_A ([(p_this, .inr (6, [.int d_dishes, .int d_speakers, .ref p_speaker, .int d_noises, .ref p_noise, .int d_askers, .ref p_asker, .ref p_st, .ref p_images, .ref p_isKept, .long d_trace, .ref p_text, .int d_texted, .int d_cursor, .int d_start, .int d_token, .int d_number, .long d_word, .int d_isWrong, .int d_saidDishes, .ref p_saidMount, .int d_saidSpeakers, .ref p_saidSpeaker, .int d_saidNoises, .ref p_saidNoise, .int d_saidAskers, .ref p_saidAsker, .ref p_room, .int d_couldBe, .int d_couldHere])), (p_st, .inl (cI, 104, .inl d_st))] : va_W) sz) := by
  refine Met.ofW (cc := cX6_isSo) (maxL := 5) (ret := (some .boolean)) (by decide) rfl ?_
  intro p e s m args below meth c s₁ B hml hv
  obtain ⟨rfl, hsz, hP, hK, hD0, hN⟩ := hv
  have hx := B.exec
  have hb := B.bytes
  have hr := B.returns
  have hts := atoms_spec (ws := wsX6_isSo) B.pre
  have hown : s.vm.findClass RX6 = some m.cls := findClass_of_methodNamed B.named
  have hlocks := B.notSynchronized
  subst hsz
  have hD := hD0.self (sz := s.heap.size)
  generalize hAe : va_A ([(p_this, .inr (6, [.int d_dishes, .int d_speakers, .ref p_speaker, .int d_noises, .ref p_noise, .int d_askers, .ref p_asker, .ref p_st, .ref p_images, .ref p_isKept, .long d_trace, .ref p_text, .int d_texted, .int d_cursor, .int d_start, .int d_token, .int d_number, .long d_word, .int d_isWrong, .int d_saidDishes, .ref p_saidMount, .int d_saidSpeakers, .ref p_saidSpeaker, .int d_saidNoises, .ref p_saidNoise, .int d_saidAskers, .ref p_saidAsker, .ref p_room, .int d_couldBe, .int d_couldHere])), (p_st, .inl (cI, 104, .inl d_st))] : va_W) s.heap.size = A at hD ⊢
  have hA : ∀ q : Nat, s.heap.size ≤ q → A q := fun q h => by rw [← hAe]; exact Or.inr h
  have hS : va_S A s.heap s.heap [] := va_S.rf
  refine W_abs (fun Q hQ => ?_)
  have hl := lv_entry ([.ref p_this, .int x1, .int x2, .int x3]) (n := 5) (Nat.le_of_ble_eq_true rfl)
  rw [lg_entry_eq]
  generalize (lg_sl ([.ref p_this, .int x1, .int x2, .int x3]) ++ List.replicate (5 - (lg_sl ([.ref p_this, .int x1, .int x2, .int x3])).length) Slot.unset).toArray = ls at hl ⊢
  have hl : lv_has ls 5 [(0, .ref p_this), (1, .int x1), (2, .int x2), (3, .int x3)] := hl
  rw [f_X6_isSo] at hrun
  refine W_start (ws := [(p_this, .inr (6, [.int d_dishes, .int d_speakers, .ref p_speaker, .int d_noises, .ref p_noise, .int d_askers, .ref p_asker, .ref p_st, .ref p_images, .ref p_isKept, .long d_trace, .ref p_text, .int d_texted, .int d_cursor, .int d_start, .int d_token, .int d_number, .long d_word, .int d_isWrong, .int d_saidDishes, .ref p_saidMount, .int d_saidSpeakers, .ref p_saidSpeaker, .int d_saidNoises, .ref p_saidNoise, .int d_saidAskers, .ref p_saidAsker, .ref p_room, .int d_couldBe, .int d_couldHere])), (p_st, .inl (cI, 104, .inl d_st))]) hP hS (fun H locs hP hS => ?_)
  have iwX6 : ∀ w ∈ wsX60, w ∈ wsX6_isSo := by decide +kernel
  refine lv_bipush (v := 44) hx hb dX6_isSo_0 (by decide) ?_
  refine lv_iconst (v := 4) hx hb dX6_isSo_2 (by decide) ?_
  refine lv_iload_n hx hb dX6_isSo_3 rfl (lv_at hl 1 rfl) ?_
  refine lv_imul hx hb dX6_isSo_4 ?_
  refine lv_iadd hx hb dX6_isSo_5 ?_
  refine lv_istore (lv' := [(4, .int (44 + (4 * x1))), (0, .ref p_this), (1, .int x1), (2, .int x2), (3, .int x3)]) hx hb dX6_isSo_6 hl (by decide) rfl (fun ls hl => ?_)
  refine lv_aload_n hx hb dX6_isSo_8 rfl (lv_at hl 1 rfl) ?_
  refine va_get (D := (dC, dI)) (ci := 6) (v := .ref p_st) (C := RX6) (T := TX6) (N := 30) hx hb hts iwX6 hown hK hP 0 rfl rfl 7 (by decide) (hts (.fieldLink RX6 19 "SkyListenersModel" "st" "[I") (by decide +kernel)) (fun _ h9 => h9) rfl dX6_isSo_9 ?_
  refine lv_iload hx hb dX6_isSo_12 (lv_at hl 0 rfl) ?_
  refine lv_iconst (v := 2) hx hb dX6_isSo_14 (by decide) ?_
  refine lv_iadd hx hb dX6_isSo_15 ?_
  rcases Classical.em (((44 + (4 * x1)) + 2) < 0 ∨ 104 ≤ ((44 + (4 * x1)) + 2).toNatClampNeg) with g_16 | g_16
  · rw [if_pos g_16] at hrun; cases hrun
  rw [if_neg g_16] at hrun
  refine va_iald hx hb hK hP 1 0 rfl rfl g_16 dX6_isSo_16 ?_
  refine lv_iload_n hx hb dX6_isSo_17 rfl (lv_at hl 3 rfl) ?_
  refine lv_icmp_ne (tgt := 43) hx hb dX6_isSo_18 (by decide) (fun c_18 => ?_) (fun c_18 => ?_)
  · rw [if_neg c_18] at hrun
    refine lv_iconst (v := 1) hx hb dX6_isSo_43 (by decide) ?_
    refine lv_goto (tgt := 48) hx hb dX6_isSo_44 (by decide) ?_
    have hrun := Option.some.inj hrun
    subst hrun
    rw [hQ]
    exact W.zret (v := 1) (ty := .boolean) hx hb hr rfl (fun t ht hW => ⟨⟨1, (), rfl, rfl, by rw [ht]; exact hP, hD⟩, hS.F ht⟩) hS.2.2 dX6_isSo_48
  · rw [if_pos c_18] at hrun
    refine lv_aload_n hx hb dX6_isSo_21 rfl (lv_at hl 1 rfl) ?_
    refine va_get (D := (dC, dI)) (ci := 6) (v := .ref p_st) (C := RX6) (T := TX6) (N := 30) hx hb hts iwX6 hown hK hP 0 rfl rfl 7 (by decide) (hts (.fieldLink RX6 19 "SkyListenersModel" "st" "[I") (by decide +kernel)) (fun _ h9 => h9) rfl dX6_isSo_22 ?_
    refine lv_iload hx hb dX6_isSo_25 (lv_at hl 0 rfl) ?_
    refine lv_iconst (v := 3) hx hb dX6_isSo_27 (by decide) ?_
    refine lv_iadd hx hb dX6_isSo_28 ?_
    rcases Classical.em (((44 + (4 * x1)) + 3) < 0 ∨ 104 ≤ ((44 + (4 * x1)) + 3).toNatClampNeg) with g_29 | g_29
    · rw [if_pos g_29] at hrun; cases hrun
    rw [if_neg g_29] at hrun
    refine va_iald hx hb hK hP 1 0 rfl rfl g_29 dX6_isSo_29 ?_
    refine lv_iconst (v := 1) hx hb dX6_isSo_30 (by decide) ?_
    have J39 : ∀ (t0_39 : Int32) (H : Heap) (locs : List Loc), va_P (dC, dI) vwCl [(p_this, .inr (6, [.int d_dishes, .int d_speakers, .ref p_speaker, .int d_noises, .ref p_noise, .int d_askers, .ref p_asker, .ref p_st, .ref p_images, .ref p_isKept, .long d_trace, .ref p_text, .int d_texted, .int d_cursor, .int d_start, .int d_token, .int d_number, .long d_word, .int d_isWrong, .int d_saidDishes, .ref p_saidMount, .int d_saidSpeakers, .ref p_saidSpeaker, .int d_saidNoises, .ref p_saidNoise, .int d_saidAskers, .ref p_saidAsker, .ref p_room, .int d_couldBe, .int d_couldHere])), (p_st, .inl (cI, 104, .inl d_st))] H → va_D A [(p_this, .inr (6, [.int d_dishes, .int d_speakers, .ref p_speaker, .int d_noises, .ref p_noise, .int d_askers, .ref p_asker, .ref p_st, .ref p_images, .ref p_isKept, .long d_trace, .ref p_text, .int d_texted, .int d_cursor, .int d_start, .int d_token, .int d_number, .long d_word, .int d_isWrong, .int d_saidDishes, .ref p_saidMount, .int d_saidSpeakers, .ref p_saidSpeaker, .int d_saidNoises, .ref p_saidNoise, .int d_saidAskers, .ref p_saidAsker, .ref p_room, .int d_couldBe, .int d_couldHere])), (p_st, .inl (cI, 104, .inl d_st))] → va_S A s.heap H locs → ∀ ls : Array Slot, lv_has ls 5 [(3, .int x3)] → f_X6_isSo_J39 x3 t0_39 = some out → W p l e ({ frames := 0, cells := 0, slots := 0, locals := 0 } : Room) s m ([.ref p_this, .int x1, .int x2, .int x3] : List Value).toArray below meth c H locs 0 0 Q (F0 m 39 ls [.int t0_39]) := by
      intro t0_39 H locs hP hD hS ls hl hrun
      rw [f_X6_isSo_J39] at hrun
      refine lv_iload_n hx hb dX6_isSo_39 rfl (lv_at hl 0 rfl) ?_
      refine lv_icmp_ne (tgt := 47) hx hb dX6_isSo_40 (by decide) (fun c_40 => ?_) (fun c_40 => ?_)
      · rw [if_neg c_40] at hrun
        refine lv_iconst (v := 0) hx hb dX6_isSo_47 (by decide) ?_
        have hrun := Option.some.inj hrun
        subst hrun
        rw [hQ]
        exact W.zret (v := 0) (ty := .boolean) hx hb hr rfl (fun t ht hW => ⟨⟨0, (), rfl, rfl, by rw [ht]; exact hP, hD⟩, hS.F ht⟩) hS.2.2 dX6_isSo_48
      · rw [if_pos c_40] at hrun
        refine lv_iconst (v := 1) hx hb dX6_isSo_43 (by decide) ?_
        refine lv_goto (tgt := 48) hx hb dX6_isSo_44 (by decide) ?_
        have hrun := Option.some.inj hrun
        subst hrun
        rw [hQ]
        exact W.zret (v := 1) (ty := .boolean) hx hb hr rfl (fun t ht hW => ⟨⟨1, (), rfl, rfl, by rw [ht]; exact hP, hD⟩, hS.F ht⟩) hS.2.2 dX6_isSo_48
    refine lv_icmp_ne (tgt := 38) hx hb dX6_isSo_31 (by decide) (fun c_31 => ?_) (fun c_31 => ?_)
    · rw [if_neg c_31] at hrun
      refine lv_iconst (v := 0) hx hb dX6_isSo_38 (by decide) ?_
      exact J39 0 H locs hP hD hS ls (lv_sub hl [4] rfl) hrun
    · rw [if_pos c_31] at hrun
      refine lv_iconst (v := 1) hx hb dX6_isSo_34 (by decide) ?_
      refine lv_goto (tgt := 39) hx hb dX6_isSo_35 (by decide) ?_
      exact J39 1 H locs hP hD hS ls (lv_sub hl [4] rfl) hrun
-- SkyListenersModel.maySpeak
def f_X6_maySpeak_J91 (K6 : Int32 → Int32 → Option (Int32)) (x1 : Int32) (x2 : Int32) (x3 : Int32) (x4 : Int32) (x6 : Int32) (d_st : Nat → Int32) (t0 : Int32) : Option (Int32) := (K6 t0 (x6 + 1))
def f_X6_maySpeak_J80 (K91 : Int32 → Option (Int32)) (x1 : Int32) (x2 : Int32) (x3 : Int32) (x4 : Int32) (x6 : Int32) (t1 : Int32) (t2 : Int32) (d_st : Nat → Int32) (t3 : Int32) : Option (Int32) := ((f_X6_isSo d_st t1 t2 t3).bind fun q80 => (if q80 = 0 then (K91 0) else (K91 1)))
def f_X6_maySpeak_L6 (x1 : Int32) (x2 : Int32) (x3 : Int32) (x4 : Int32) (d_st : Nat → Int32) : Nat → Int32 → Int32 → Option (Int32)
  | 0, _, _ => none
  | n9 + 1, x5, x6 => (if (d_st (Int32.toNatClampNeg 1)) ≤ x6 then (if x5 = 0 ∨ x5 = 1 then (some x5) else none) else (if (44 + (4 * x6)) < 0 ∨ 104 ≤ (44 + (4 * x6)).toNatClampNeg then none else (if x5 = 0 then (f_X6_maySpeak_J91 (f_X6_maySpeak_L6  x1 x2 x3 x4 d_st n9) x1 x2 x3 x4 x6 d_st 0) else (if ((44 + (4 * x6)) + 1) < 0 ∨ 104 ≤ ((44 + (4 * x6)) + 1).toNatClampNeg then none else ((f_X6_looksOf d_st (d_st ((44 + (4 * x6)) + 1).toNatClampNeg) (d_st (44 + (4 * x6)).toNatClampNeg)).bind fun q57 => (if q57 = x2 then (if (f_X6_in (d_st (44 + (4 * x6)).toNatClampNeg) x3 x4) = 0 then (f_X6_maySpeak_J80 (f_X6_maySpeak_J91 (f_X6_maySpeak_L6  x1 x2 x3 x4 d_st n9) x1 x2 x3 x4 x6 d_st) x1 x2 x3 x4 x6 x6 x1 d_st 0) else (f_X6_maySpeak_J80 (f_X6_maySpeak_J91 (f_X6_maySpeak_L6  x1 x2 x3 x4 d_st n9) x1 x2 x3 x4 x6 d_st) x1 x2 x3 x4 x6 x6 x1 d_st 1)) else (f_X6_maySpeak_J80 (f_X6_maySpeak_J91 (f_X6_maySpeak_L6  x1 x2 x3 x4 d_st n9) x1 x2 x3 x4 x6 d_st) x1 x2 x3 x4 x6 x6 x1 d_st 0)))))))
def f_X6_maySpeak (d_st : Nat → Int32) (x1 : Int32) (x2 : Int32) (x3 : Int32) (x4 : Int32) : Option (Int32) := (f_X6_maySpeak_L6 x1 x2 x3 x4 d_st FU 1 0)
set_option maxHeartbeats 4000000 in
set_option maxRecDepth 100000 in
theorem c_X6_maySpeak (l : Launch) (dC : Nat → ClassId) (dI : Nat → Nat → Nat) (cI cZ : ClassId) (sz : Nat) (p_asker p_images p_isKept p_noise p_room p_saidAsker p_saidMount p_saidNoise p_saidSpeaker p_speaker p_st p_text p_this : Nat) (d_dishes : Int32) (d_speakers : Int32) (d_noises : Int32) (d_askers : Int32) (d_trace : Int64) (d_texted : Int32) (d_cursor : Int32) (d_start : Int32) (d_token : Int32) (d_number : Int32) (d_word : Int64) (d_isWrong : Int32) (d_saidDishes : Int32) (d_saidSpeakers : Int32) (d_saidNoises : Int32) (d_saidAskers : Int32) (d_couldBe : Int32) (d_couldHere : Int32) (d_st : Nat → Int32) (x1 : Int32) (x2 : Int32) (x3 : Int32) (x4 : Int32) (out : Int32) (hrun : f_X6_maySpeak d_st x1 x2 x3 x4 = some out) : Met l yX6_maySpeak wsX6_maySpeak ({ frames := 1, cells := 0, slots := 0, locals := 24 } : Room) (va_Pc [.ref p_this, .int x1, .int x2, .int x3, .int x4] (PC dC dI cI cZ sz ([(p_this, .inr (6, [.int d_dishes, .int d_speakers, .ref p_speaker, .int d_noises, .ref p_noise, .int d_askers, .ref p_asker, .ref p_st, .ref p_images, .ref p_isKept, .long d_trace, .ref p_text, .int d_texted, .int d_cursor, .int d_start, .int d_token, .int d_number, .long d_word, .int d_isWrong, .int d_saidDishes, .ref p_saidMount, .int d_saidSpeakers, .ref p_saidSpeaker, .int d_saidNoises, .ref p_saidNoise, .int d_saidAskers, .ref p_saidAsker, .ref p_room, .int d_couldBe, .int d_couldHere])), (p_st, .inl (cI, 104, .inl d_st))] : va_W))) (va_Qi (fun r (_ : Unit) => r = out) (fun _ t => va_P (dC, dI) vwCl [(p_this, .inr (6, [.int d_dishes, .int d_speakers, .ref p_speaker, .int d_noises, .ref p_noise, .int d_askers, .ref p_asker, .ref p_st, .ref p_images, .ref p_isKept, .long d_trace, .ref p_text, .int d_texted, .int d_cursor, .int d_start, .int d_token, .int d_number, .long d_word, .int d_isWrong, .int d_saidDishes, .ref p_saidMount, .int d_saidSpeakers, .ref p_saidSpeaker, .int d_saidNoises, .ref p_saidNoise, .int d_saidAskers, .ref p_saidAsker, .ref p_room, .int d_couldBe, .int d_couldHere])), (p_st, .inl (cI, 104, .inl d_st))] t.heap ∧ va_D (va_A ([(p_this, .inr (6, [.int d_dishes, .int d_speakers, .ref p_speaker, .int d_noises, .ref p_noise, .int d_askers, .ref p_asker, .ref p_st, .ref p_images, .ref p_isKept, .long d_trace, .ref p_text, .int d_texted, .int d_cursor, .int d_start, .int d_token, .int d_number, .long d_word, .int d_isWrong, .int d_saidDishes, .ref p_saidMount, .int d_saidSpeakers, .ref p_saidSpeaker, .int d_saidNoises, .ref p_saidNoise, .int d_saidAskers, .ref p_saidAsker, .ref p_room, .int d_couldBe, .int d_couldHere])), (p_st, .inl (cI, 104, .inl d_st))] : va_W) sz) [(p_this, .inr (6, [.int d_dishes, .int d_speakers, .ref p_speaker, .int d_noises, .ref p_noise, .int d_askers, .ref p_asker, .ref p_st, .ref p_images, .ref p_isKept, .long d_trace, .ref p_text, .int d_texted, .int d_cursor, .int d_start, .int d_token, .int d_number, .long d_word, .int d_isWrong, .int d_saidDishes, .ref p_saidMount, .int d_saidSpeakers, .ref p_saidSpeaker, .int d_saidNoises, .ref p_saidNoise, .int d_saidAskers, .ref p_saidAsker, .ref p_room, .int d_couldBe, .int d_couldHere])), (p_st, .inl (cI, 104, .inl d_st))]) (va_A ([(p_this, .inr (6, [.int d_dishes, .int d_speakers, .ref p_speaker, .int d_noises, .ref p_noise, .int d_askers, .ref p_asker, .ref p_st, .ref p_images, .ref p_isKept, .long d_trace, .ref p_text, .int d_texted, .int d_cursor, .int d_start, .int d_token, .int d_number, .long d_word, .int d_isWrong, .int d_saidDishes, .ref p_saidMount, .int d_saidSpeakers, .ref p_saidSpeaker, .int d_saidNoises, .ref p_saidNoise, .int d_saidAskers, .ref p_saidAsker, .ref p_room, .int d_couldBe, .int d_couldHere])), (p_st, .inl (cI, 104, .inl d_st))] : va_W) sz)) 0 0 (va_A ([(p_this, .inr (6, [.int d_dishes, .int d_speakers, .ref p_speaker, .int d_noises, .ref p_noise, .int d_askers, .ref p_asker, .ref p_st, .ref p_images, .ref p_isKept, .long d_trace, .ref p_text, .int d_texted, .int d_cursor, .int d_start, .int d_token, .int d_number, .long d_word, .int d_isWrong, .int d_saidDishes, .ref p_saidMount, .int d_saidSpeakers, .ref p_saidSpeaker, .int d_saidNoises, .ref p_saidNoise, .int d_saidAskers, .ref p_saidAsker, .ref p_room, .int d_couldBe, .int d_couldHere])), (p_st, .inl (cI, 104, .inl d_st))] : va_W) sz) := by
  refine Met.ofW (cc := cX6_maySpeak) (maxL := 8) (ret := (some .boolean)) (by decide) rfl ?_
  intro p e s m args below meth c s₁ B hml hv
  obtain ⟨rfl, hsz, hP, hK, hD0, hN⟩ := hv
  have hx := B.exec
  have hb := B.bytes
  have hr := B.returns
  have hts := atoms_spec (ws := wsX6_maySpeak) B.pre
  have hown : s.vm.findClass RX6 = some m.cls := findClass_of_methodNamed B.named
  have hlocks := B.notSynchronized
  subst hsz
  have hD := hD0.self (sz := s.heap.size)
  generalize hAe : va_A ([(p_this, .inr (6, [.int d_dishes, .int d_speakers, .ref p_speaker, .int d_noises, .ref p_noise, .int d_askers, .ref p_asker, .ref p_st, .ref p_images, .ref p_isKept, .long d_trace, .ref p_text, .int d_texted, .int d_cursor, .int d_start, .int d_token, .int d_number, .long d_word, .int d_isWrong, .int d_saidDishes, .ref p_saidMount, .int d_saidSpeakers, .ref p_saidSpeaker, .int d_saidNoises, .ref p_saidNoise, .int d_saidAskers, .ref p_saidAsker, .ref p_room, .int d_couldBe, .int d_couldHere])), (p_st, .inl (cI, 104, .inl d_st))] : va_W) s.heap.size = A at hD ⊢
  have hA : ∀ q : Nat, s.heap.size ≤ q → A q := fun q h => by rw [← hAe]; exact Or.inr h
  have hS : va_S A s.heap s.heap [] := va_S.rf
  refine W_abs (fun Q hQ => ?_)
  have hl := lv_entry ([.ref p_this, .int x1, .int x2, .int x3, .int x4]) (n := 8) (Nat.le_of_ble_eq_true rfl)
  rw [lg_entry_eq]
  generalize (lg_sl ([.ref p_this, .int x1, .int x2, .int x3, .int x4]) ++ List.replicate (8 - (lg_sl ([.ref p_this, .int x1, .int x2, .int x3, .int x4])).length) Slot.unset).toArray = ls at hl ⊢
  have hl : lv_has ls 8 [(0, .ref p_this), (1, .int x1), (2, .int x2), (3, .int x3), (4, .int x4)] := hl
  rw [f_X6_maySpeak] at hrun
  refine W_start (ws := [(p_this, .inr (6, [.int d_dishes, .int d_speakers, .ref p_speaker, .int d_noises, .ref p_noise, .int d_askers, .ref p_asker, .ref p_st, .ref p_images, .ref p_isKept, .long d_trace, .ref p_text, .int d_texted, .int d_cursor, .int d_start, .int d_token, .int d_number, .long d_word, .int d_isWrong, .int d_saidDishes, .ref p_saidMount, .int d_saidSpeakers, .ref p_saidSpeaker, .int d_saidNoises, .ref p_saidNoise, .int d_saidAskers, .ref p_saidAsker, .ref p_room, .int d_couldBe, .int d_couldHere])), (p_st, .inl (cI, 104, .inl d_st))]) hP hS (fun H locs hP hS => ?_)
  have iwX6 : ∀ w ∈ wsX60, w ∈ wsX6_maySpeak := by decide +kernel
  refine lv_iconst (v := 1) hx hb dX6_maySpeak_0 (by decide) ?_
  refine lv_istore (lv' := [(5, .int 1), (0, .ref p_this), (1, .int x1), (2, .int x2), (3, .int x3), (4, .int x4)]) hx hb dX6_maySpeak_1 hl (by decide) rfl (fun ls hl => ?_)
  refine lv_iconst (v := 0) hx hb dX6_maySpeak_3 (by decide) ?_
  refine lv_istore (lv' := [(6, .int 0), (5, .int 1), (0, .ref p_this), (1, .int x1), (2, .int x2), (3, .int x3), (4, .int x4)]) hx hb dX6_maySpeak_4 hl (by decide) rfl (fun ls hl => ?_)
  have L6 : ∀ (n9_6 : Nat) (x5_6 : Int32) (x6_6 : Int32) (H : Heap) (locs : List Loc), va_P (dC, dI) vwCl [(p_this, .inr (6, [.int d_dishes, .int d_speakers, .ref p_speaker, .int d_noises, .ref p_noise, .int d_askers, .ref p_asker, .ref p_st, .ref p_images, .ref p_isKept, .long d_trace, .ref p_text, .int d_texted, .int d_cursor, .int d_start, .int d_token, .int d_number, .long d_word, .int d_isWrong, .int d_saidDishes, .ref p_saidMount, .int d_saidSpeakers, .ref p_saidSpeaker, .int d_saidNoises, .ref p_saidNoise, .int d_saidAskers, .ref p_saidAsker, .ref p_room, .int d_couldBe, .int d_couldHere])), (p_st, .inl (cI, 104, .inl d_st))] H → va_D A [(p_this, .inr (6, [.int d_dishes, .int d_speakers, .ref p_speaker, .int d_noises, .ref p_noise, .int d_askers, .ref p_asker, .ref p_st, .ref p_images, .ref p_isKept, .long d_trace, .ref p_text, .int d_texted, .int d_cursor, .int d_start, .int d_token, .int d_number, .long d_word, .int d_isWrong, .int d_saidDishes, .ref p_saidMount, .int d_saidSpeakers, .ref p_saidSpeaker, .int d_saidNoises, .ref p_saidNoise, .int d_saidAskers, .ref p_saidAsker, .ref p_room, .int d_couldBe, .int d_couldHere])), (p_st, .inl (cI, 104, .inl d_st))] → va_S A s.heap H locs → ∀ ls : Array Slot, lv_has ls 8 [(0, .ref p_this), (1, .int x1), (2, .int x2), (3, .int x3), (4, .int x4), (5, .int x5_6), (6, .int x6_6)] → f_X6_maySpeak_L6 x1 x2 x3 x4 d_st n9_6 x5_6 x6_6 = some out → W p l e ({ frames := 1, cells := 0, slots := 0, locals := 24 } : Room) s m ([.ref p_this, .int x1, .int x2, .int x3, .int x4] : List Value).toArray below meth c H locs 0 0 Q (F0 m 6 ls []) := by
    intro n9_6
    induction n9_6 with
    | zero =>
      intro x5_6 x6_6 H locs hP hD hS ls hl hrun
      rw [f_X6_maySpeak_L6] at hrun
      cases hrun
    | succ n9_6 ih6 =>
      intro x5_6 x6_6 H locs hP hD hS ls hl hrun
      rw [f_X6_maySpeak_L6] at hrun
      refine lv_iload hx hb dX6_maySpeak_6 (lv_at hl 6 rfl) ?_
      refine lv_aload_n hx hb dX6_maySpeak_8 rfl (lv_at hl 0 rfl) ?_
      refine va_get (D := (dC, dI)) (ci := 6) (v := .ref p_st) (C := RX6) (T := TX6) (N := 30) hx hb hts iwX6 hown hK hP 0 rfl rfl 7 (by decide) (hts (.fieldLink RX6 19 "SkyListenersModel" "st" "[I") (by decide +kernel)) (fun _ h9 => h9) rfl dX6_maySpeak_9 ?_
      refine lv_iconst (v := 1) hx hb dX6_maySpeak_12 (by decide) ?_
      refine va_iald hx hb hK hP 1 0 rfl rfl (vp_lit (by decide) (by decide)) dX6_maySpeak_13 ?_
      refine lv_icmp_ge (tgt := 99) hx hb dX6_maySpeak_14 (by decide) (fun c_14 => ?_) (fun c_14 => ?_)
      · rw [if_pos c_14] at hrun
        refine lv_iload hx hb dX6_maySpeak_99 (lv_at hl 5 rfl) ?_
        rcases Classical.em (¬ (x5_6 = 0 ∨ x5_6 = 1)) with g_101 | g_101
        · rw [if_neg g_101] at hrun; cases hrun
        have g_101 := Classical.not_not.mp g_101
        rw [if_pos g_101] at hrun
        have hrun := Option.some.inj hrun
        subst hrun
        rw [hQ]
        exact W.zret (v := x5_6) (ty := .boolean) hx hb hr (nar_b g_101) (fun t ht hW => ⟨⟨x5_6, (), rfl, rfl, by rw [ht]; exact hP, hD⟩, hS.F ht⟩) hS.2.2 dX6_maySpeak_101
      · rw [if_neg c_14] at hrun
        refine lv_aload_n hx hb dX6_maySpeak_17 rfl (lv_at hl 0 rfl) ?_
        refine va_get (D := (dC, dI)) (ci := 6) (v := .ref p_st) (C := RX6) (T := TX6) (N := 30) hx hb hts iwX6 hown hK hP 0 rfl rfl 7 (by decide) (hts (.fieldLink RX6 19 "SkyListenersModel" "st" "[I") (by decide +kernel)) (fun _ h9 => h9) rfl dX6_maySpeak_18 ?_
        refine lv_bipush (v := 44) hx hb dX6_maySpeak_21 (by decide) ?_
        refine lv_iconst (v := 4) hx hb dX6_maySpeak_23 (by decide) ?_
        refine lv_iload hx hb dX6_maySpeak_24 (lv_at hl 6 rfl) ?_
        refine lv_imul hx hb dX6_maySpeak_26 ?_
        refine lv_iadd hx hb dX6_maySpeak_27 ?_
        rcases Classical.em ((44 + (4 * x6_6)) < 0 ∨ 104 ≤ (44 + (4 * x6_6)).toNatClampNeg) with g_28 | g_28
        · rw [if_pos g_28] at hrun; cases hrun
        rw [if_neg g_28] at hrun
        refine va_iald hx hb hK hP 1 0 rfl rfl g_28 dX6_maySpeak_28 ?_
        refine lv_istore (lv' := [(7, .int (d_st (44 + (4 * x6_6)).toNatClampNeg)), (0, .ref p_this), (1, .int x1), (2, .int x2), (3, .int x3), (4, .int x4), (5, .int x5_6), (6, .int x6_6)]) hx hb dX6_maySpeak_29 hl (by decide) rfl (fun ls hl => ?_)
        refine lv_iload hx hb dX6_maySpeak_31 (lv_at hl 6 rfl) ?_
        have J91 : ∀ (t0_91 : Int32) (H : Heap) (locs : List Loc), va_P (dC, dI) vwCl [(p_this, .inr (6, [.int d_dishes, .int d_speakers, .ref p_speaker, .int d_noises, .ref p_noise, .int d_askers, .ref p_asker, .ref p_st, .ref p_images, .ref p_isKept, .long d_trace, .ref p_text, .int d_texted, .int d_cursor, .int d_start, .int d_token, .int d_number, .long d_word, .int d_isWrong, .int d_saidDishes, .ref p_saidMount, .int d_saidSpeakers, .ref p_saidSpeaker, .int d_saidNoises, .ref p_saidNoise, .int d_saidAskers, .ref p_saidAsker, .ref p_room, .int d_couldBe, .int d_couldHere])), (p_st, .inl (cI, 104, .inl d_st))] H → va_D A [(p_this, .inr (6, [.int d_dishes, .int d_speakers, .ref p_speaker, .int d_noises, .ref p_noise, .int d_askers, .ref p_asker, .ref p_st, .ref p_images, .ref p_isKept, .long d_trace, .ref p_text, .int d_texted, .int d_cursor, .int d_start, .int d_token, .int d_number, .long d_word, .int d_isWrong, .int d_saidDishes, .ref p_saidMount, .int d_saidSpeakers, .ref p_saidSpeaker, .int d_saidNoises, .ref p_saidNoise, .int d_saidAskers, .ref p_saidAsker, .ref p_room, .int d_couldBe, .int d_couldHere])), (p_st, .inl (cI, 104, .inl d_st))] → va_S A s.heap H locs → ∀ ls : Array Slot, lv_has ls 8 [(0, .ref p_this), (1, .int x1), (2, .int x2), (3, .int x3), (4, .int x4), (6, .int x6_6)] → f_X6_maySpeak_J91 (f_X6_maySpeak_L6 x1 x2 x3 x4 d_st n9_6) x1 x2 x3 x4 x6_6 d_st t0_91 = some out → W p l e ({ frames := 1, cells := 0, slots := 0, locals := 24 } : Room) s m ([.ref p_this, .int x1, .int x2, .int x3, .int x4] : List Value).toArray below meth c H locs 0 0 Q (F0 m 91 ls [.int t0_91]) := by
          intro t0_91 H locs hP hD hS ls hl hrun
          rw [f_X6_maySpeak_J91] at hrun
          refine lv_istore (lv' := [(5, .int t0_91), (0, .ref p_this), (1, .int x1), (2, .int x2), (3, .int x3), (4, .int x4), (6, .int x6_6)]) hx hb dX6_maySpeak_91 hl (by decide) rfl (fun ls hl => ?_)
          refine lv_iinc (v := x6_6 + 1) (lv' := [(6, .int (x6_6 + 1)), (5, .int t0_91), (0, .ref p_this), (1, .int x1), (2, .int x2), (3, .int x3), (4, .int x4)]) hx hb dX6_maySpeak_93 hl (k := 6) rfl rfl (by decide) rfl (fun ls hl => ?_)
          refine lv_goto (tgt := 6) hx hb dX6_maySpeak_96 (by decide) ?_
          exact ih6 t0_91 (x6_6 + 1) H locs hP hD hS ls (lv_sub hl [2, 3, 4, 5, 6, 1, 0] rfl) hrun
        refine lv_if_eq (tgt := 90) hx hb dX6_maySpeak_33 (by decide) (fun c_33 => ?_) (fun c_33 => ?_)
        · rw [if_pos c_33] at hrun
          refine lv_iconst (v := 0) hx hb dX6_maySpeak_90 (by decide) ?_
          exact J91 0 H locs hP hD hS ls (lv_sub hl [1, 2, 3, 4, 5, 7] rfl) hrun
        · rw [if_neg c_33] at hrun
          refine lv_aload_n hx hb dX6_maySpeak_36 rfl (lv_at hl 1 rfl) ?_
          refine lv_iload hx hb dX6_maySpeak_37 (lv_at hl 7 rfl) ?_
          refine lv_iload_n hx hb dX6_maySpeak_39 rfl (lv_at hl 2 rfl) ?_
          refine lv_aload_n hx hb dX6_maySpeak_40 rfl (lv_at hl 1 rfl) ?_
          refine lv_aload_n hx hb dX6_maySpeak_41 rfl (lv_at hl 1 rfl) ?_
          refine va_get (D := (dC, dI)) (ci := 6) (v := .ref p_st) (C := RX6) (T := TX6) (N := 30) hx hb hts iwX6 hown hK hP 0 rfl rfl 7 (by decide) (hts (.fieldLink RX6 19 "SkyListenersModel" "st" "[I") (by decide +kernel)) (fun _ h9 => h9) rfl dX6_maySpeak_42 ?_
          refine lv_bipush (v := 44) hx hb dX6_maySpeak_45 (by decide) ?_
          refine lv_iconst (v := 4) hx hb dX6_maySpeak_47 (by decide) ?_
          refine lv_iload hx hb dX6_maySpeak_48 (lv_at hl 7 rfl) ?_
          refine lv_imul hx hb dX6_maySpeak_50 ?_
          refine lv_iadd hx hb dX6_maySpeak_51 ?_
          refine lv_iconst (v := 1) hx hb dX6_maySpeak_52 (by decide) ?_
          refine lv_iadd hx hb dX6_maySpeak_53 ?_
          rcases Classical.em (((44 + (4 * x6_6)) + 1) < 0 ∨ 104 ≤ ((44 + (4 * x6_6)) + 1).toNatClampNeg) with g_54 | g_54
          · rw [if_pos g_54] at hrun; cases hrun
          rw [if_neg g_54] at hrun
          refine va_iald hx hb hK hP 1 0 rfl rfl g_54 dX6_maySpeak_54 ?_
          refine lv_iload hx hb dX6_maySpeak_55 (lv_at hl 0 rfl) ?_
          obtain ⟨q57, hq57, hrun⟩ := bind_out hrun
          have hPc : va_P (dC, dI) vwCl [(p_this, .inr (6, [.int d_dishes, .int d_speakers, .ref p_speaker, .int d_noises, .ref p_noise, .int d_askers, .ref p_asker, .ref p_st, .ref p_images, .ref p_isKept, .long d_trace, .ref p_text, .int d_texted, .int d_cursor, .int d_start, .int d_token, .int d_number, .long d_word, .int d_isWrong, .int d_saidDishes, .ref p_saidMount, .int d_saidSpeakers, .ref p_saidSpeaker, .int d_saidNoises, .ref p_saidNoise, .int d_saidAskers, .ref p_saidAsker, .ref p_room, .int d_couldBe, .int d_couldHere])), (p_st, .inl (cI, 104, .inl d_st))] H := hP.sub [0, 1] rfl
          have hDc : va_D A [(p_this, .inr (6, [.int d_dishes, .int d_speakers, .ref p_speaker, .int d_noises, .ref p_noise, .int d_askers, .ref p_asker, .ref p_st, .ref p_images, .ref p_isKept, .long d_trace, .ref p_text, .int d_texted, .int d_cursor, .int d_start, .int d_token, .int d_number, .long d_word, .int d_isWrong, .int d_saidDishes, .ref p_saidMount, .int d_saidSpeakers, .ref p_saidSpeaker, .int d_saidNoises, .ref p_saidNoise, .int d_saidAskers, .ref p_saidAsker, .ref p_room, .int d_couldBe, .int d_couldHere])), (p_st, .inl (cI, 104, .inl d_st))] := hD.sub [0, 1] (by decide) rfl
          have hFc := va_free (wc := [(p_this, .inr (6, [.int d_dishes, .int d_speakers, .ref p_speaker, .int d_noises, .ref p_noise, .int d_askers, .ref p_asker, .ref p_st, .ref p_images, .ref p_isKept, .long d_trace, .ref p_text, .int d_texted, .int d_cursor, .int d_start, .int d_token, .int d_number, .long d_word, .int d_isWrong, .int d_saidDishes, .ref p_saidMount, .int d_saidSpeakers, .ref p_saidSpeaker, .int d_saidNoises, .ref p_saidNoise, .int d_saidAskers, .ref p_saidAsker, .ref p_room, .int d_couldBe, .int d_couldHere])), (p_st, .inl (cI, 104, .inl d_st))]) hD hS hA [0, 1] rfl
          refine va_calli (va_runV (As := [.int (d_st ((44 + (4 * x6_6)) + 1).toNatClampNeg), .int (d_st (44 + (4 * x6_6)).toNatClampNeg)]) (rest := [.int x1, .int x6_6, .ref p_this]) ⟨hx, hb, hml, hown, hts⟩ (c_X6_looksOf l dC dI cI cZ H.size p_asker p_images p_isKept p_noise p_room p_saidAsker p_saidMount p_saidNoise p_saidSpeaker p_speaker p_st p_text p_this d_dishes d_speakers d_noises d_askers d_trace d_texted d_cursor d_start d_token d_number d_word d_isWrong d_saidDishes d_saidSpeakers d_saidNoises d_saidAskers d_couldBe d_couldHere d_st (d_st ((44 + (4 * x6_6)) + 1).toNatClampNeg) (d_st (44 + (4 * x6_6)).toNatClampNeg) q57 hq57) (cwV 2 hts gX6_maySpeak_X6_looksOf rfl rfl rfl (by decide +kernel) ⟨Nat.le_of_ble_eq_true rfl, Nat.le_of_ble_eq_true rfl⟩) ⟨fun a U g mk q => ⟨q.1, PC.mv q.2⟩, va_recv hK hP (ci := 6) (q0 := 0) rfl rfl, fun U hU hW => ⟨rfl, PC.of hU hW hPc hK hDc hN⟩⟩ rfl rfl hl.1 rfl (lv_room (Nat.le_of_ble_eq_true rfl)) dX6_maySpeak_57 ⟨Nat.zero_le _, Nat.zero_le _⟩) hS (fun q _ h => hFc q h) hFc (fun r_57 u t H1 locs ht hvm hw hB hz1 hk1 hS => ?_)
          obtain ⟨hP1, hD1⟩ := hB
          try dsimp only at hw
          rw [hw]
          rw [ht] at hP1
          have hP : va_P (dC, dI) vwCl [(p_this, .inr (6, [.int d_dishes, .int d_speakers, .ref p_speaker, .int d_noises, .ref p_noise, .int d_askers, .ref p_asker, .ref p_st, .ref p_images, .ref p_isKept, .long d_trace, .ref p_text, .int d_texted, .int d_cursor, .int d_start, .int d_token, .int d_number, .long d_word, .int d_isWrong, .int d_saidDishes, .ref p_saidMount, .int d_saidSpeakers, .ref p_saidSpeaker, .int d_saidNoises, .ref p_saidNoise, .int d_saidAskers, .ref p_saidAsker, .ref p_room, .int d_couldBe, .int d_couldHere])), (p_st, .inl (cI, 104, .inl d_st))] H1 := join_ro hP hD [0, 1] rfl hk1 hP1
          clear hPc hDc hFc hk1 hz1 hP1 hD1 ht hvm
          generalize H1 = H at hP hS ⊢
          refine lv_iload_n hx hb dX6_maySpeak_60 rfl (lv_at hl 3 rfl) ?_
          have J80 : ∀ (t3_80 : Int32) (H : Heap) (locs : List Loc), va_P (dC, dI) vwCl [(p_this, .inr (6, [.int d_dishes, .int d_speakers, .ref p_speaker, .int d_noises, .ref p_noise, .int d_askers, .ref p_asker, .ref p_st, .ref p_images, .ref p_isKept, .long d_trace, .ref p_text, .int d_texted, .int d_cursor, .int d_start, .int d_token, .int d_number, .long d_word, .int d_isWrong, .int d_saidDishes, .ref p_saidMount, .int d_saidSpeakers, .ref p_saidSpeaker, .int d_saidNoises, .ref p_saidNoise, .int d_saidAskers, .ref p_saidAsker, .ref p_room, .int d_couldBe, .int d_couldHere])), (p_st, .inl (cI, 104, .inl d_st))] H → va_D A [(p_this, .inr (6, [.int d_dishes, .int d_speakers, .ref p_speaker, .int d_noises, .ref p_noise, .int d_askers, .ref p_asker, .ref p_st, .ref p_images, .ref p_isKept, .long d_trace, .ref p_text, .int d_texted, .int d_cursor, .int d_start, .int d_token, .int d_number, .long d_word, .int d_isWrong, .int d_saidDishes, .ref p_saidMount, .int d_saidSpeakers, .ref p_saidSpeaker, .int d_saidNoises, .ref p_saidNoise, .int d_saidAskers, .ref p_saidAsker, .ref p_room, .int d_couldBe, .int d_couldHere])), (p_st, .inl (cI, 104, .inl d_st))] → va_S A s.heap H locs → ∀ ls : Array Slot, lv_has ls 8 [(0, .ref p_this), (1, .int x1), (2, .int x2), (3, .int x3), (4, .int x4), (6, .int x6_6)] → f_X6_maySpeak_J80 (f_X6_maySpeak_J91 (f_X6_maySpeak_L6 x1 x2 x3 x4 d_st n9_6) x1 x2 x3 x4 x6_6 d_st) x1 x2 x3 x4 x6_6 x6_6 x1 d_st t3_80 = some out → W p l e ({ frames := 1, cells := 0, slots := 0, locals := 24 } : Room) s m ([.ref p_this, .int x1, .int x2, .int x3, .int x4] : List Value).toArray below meth c H locs 0 0 Q (F0 m 80 ls [.int t3_80, .int x1, .int x6_6, .ref p_this]) := by
            intro t3_80 H locs hP hD hS ls hl hrun
            rw [f_X6_maySpeak_J80] at hrun
            obtain ⟨q80, hq80, hrun⟩ := bind_out hrun
            have hPc : va_P (dC, dI) vwCl [(p_this, .inr (6, [.int d_dishes, .int d_speakers, .ref p_speaker, .int d_noises, .ref p_noise, .int d_askers, .ref p_asker, .ref p_st, .ref p_images, .ref p_isKept, .long d_trace, .ref p_text, .int d_texted, .int d_cursor, .int d_start, .int d_token, .int d_number, .long d_word, .int d_isWrong, .int d_saidDishes, .ref p_saidMount, .int d_saidSpeakers, .ref p_saidSpeaker, .int d_saidNoises, .ref p_saidNoise, .int d_saidAskers, .ref p_saidAsker, .ref p_room, .int d_couldBe, .int d_couldHere])), (p_st, .inl (cI, 104, .inl d_st))] H := hP.sub [0, 1] rfl
            have hDc : va_D A [(p_this, .inr (6, [.int d_dishes, .int d_speakers, .ref p_speaker, .int d_noises, .ref p_noise, .int d_askers, .ref p_asker, .ref p_st, .ref p_images, .ref p_isKept, .long d_trace, .ref p_text, .int d_texted, .int d_cursor, .int d_start, .int d_token, .int d_number, .long d_word, .int d_isWrong, .int d_saidDishes, .ref p_saidMount, .int d_saidSpeakers, .ref p_saidSpeaker, .int d_saidNoises, .ref p_saidNoise, .int d_saidAskers, .ref p_saidAsker, .ref p_room, .int d_couldBe, .int d_couldHere])), (p_st, .inl (cI, 104, .inl d_st))] := hD.sub [0, 1] (by decide) rfl
            have hFc := va_free (wc := [(p_this, .inr (6, [.int d_dishes, .int d_speakers, .ref p_speaker, .int d_noises, .ref p_noise, .int d_askers, .ref p_asker, .ref p_st, .ref p_images, .ref p_isKept, .long d_trace, .ref p_text, .int d_texted, .int d_cursor, .int d_start, .int d_token, .int d_number, .long d_word, .int d_isWrong, .int d_saidDishes, .ref p_saidMount, .int d_saidSpeakers, .ref p_saidSpeaker, .int d_saidNoises, .ref p_saidNoise, .int d_saidAskers, .ref p_saidAsker, .ref p_room, .int d_couldBe, .int d_couldHere])), (p_st, .inl (cI, 104, .inl d_st))]) hD hS hA [0, 1] rfl
            refine va_calli (va_runV (As := [.int x6_6, .int x1, .int t3_80]) (rest := []) ⟨hx, hb, hml, hown, hts⟩ (c_X6_isSo l dC dI cI cZ H.size p_asker p_images p_isKept p_noise p_room p_saidAsker p_saidMount p_saidNoise p_saidSpeaker p_speaker p_st p_text p_this d_dishes d_speakers d_noises d_askers d_trace d_texted d_cursor d_start d_token d_number d_word d_isWrong d_saidDishes d_saidSpeakers d_saidNoises d_saidAskers d_couldBe d_couldHere d_st x6_6 x1 t3_80 q80 hq80) (cwV 3 hts gX6_maySpeak_X6_isSo rfl rfl rfl (by decide +kernel) ⟨Nat.le_of_ble_eq_true rfl, Nat.le_of_ble_eq_true rfl⟩) ⟨fun a U g mk q => ⟨q.1, PC.mv q.2⟩, va_recv hK hP (ci := 6) (q0 := 0) rfl rfl, fun U hU hW => ⟨rfl, PC.of hU hW hPc hK hDc hN⟩⟩ rfl rfl hl.1 rfl (lv_room (Nat.le_of_ble_eq_true rfl)) dX6_maySpeak_80 ⟨Nat.zero_le _, Nat.zero_le _⟩) hS (fun q _ h => hFc q h) hFc (fun r_80 u t H1 locs ht hvm hw hB hz1 hk1 hS => ?_)
            obtain ⟨hP1, hD1⟩ := hB
            try dsimp only at hw
            rw [hw]
            rw [ht] at hP1
            have hP : va_P (dC, dI) vwCl [(p_this, .inr (6, [.int d_dishes, .int d_speakers, .ref p_speaker, .int d_noises, .ref p_noise, .int d_askers, .ref p_asker, .ref p_st, .ref p_images, .ref p_isKept, .long d_trace, .ref p_text, .int d_texted, .int d_cursor, .int d_start, .int d_token, .int d_number, .long d_word, .int d_isWrong, .int d_saidDishes, .ref p_saidMount, .int d_saidSpeakers, .ref p_saidSpeaker, .int d_saidNoises, .ref p_saidNoise, .int d_saidAskers, .ref p_saidAsker, .ref p_room, .int d_couldBe, .int d_couldHere])), (p_st, .inl (cI, 104, .inl d_st))] H1 := join_ro hP hD [0, 1] rfl hk1 hP1
            clear hPc hDc hFc hk1 hz1 hP1 hD1 ht hvm
            generalize H1 = H at hP hS ⊢
            refine lv_if_eq (tgt := 90) hx hb dX6_maySpeak_83 (by decide) (fun c_83 => ?_) (fun c_83 => ?_)
            · rw [if_pos c_83] at hrun
              refine lv_iconst (v := 0) hx hb dX6_maySpeak_90 (by decide) ?_
              exact J91 0 H locs hP hD hS ls hl hrun
            · rw [if_neg c_83] at hrun
              refine lv_iconst (v := 1) hx hb dX6_maySpeak_86 (by decide) ?_
              refine lv_goto (tgt := 91) hx hb dX6_maySpeak_87 (by decide) ?_
              exact J91 1 H locs hP hD hS ls hl hrun
          refine lv_icmp_ne (tgt := 79) hx hb dX6_maySpeak_61 (by decide) (fun c_61 => ?_) (fun c_61 => ?_)
          · rw [if_neg c_61] at hrun
            refine lv_iconst (v := 0) hx hb dX6_maySpeak_79 (by decide) ?_
            exact J80 0 H locs hP hD hS ls (lv_sub hl [1, 2, 3, 4, 5, 7] rfl) hrun
          · rw [if_pos c_61] at hrun
            refine lv_iload hx hb dX6_maySpeak_64 (lv_at hl 0 rfl) ?_
            refine lv_iload_n hx hb dX6_maySpeak_66 rfl (lv_at hl 4 rfl) ?_
            refine lv_iload hx hb dX6_maySpeak_67 (lv_at hl 5 rfl) ?_
            have hPc : va_P (dC, dI) vwCl [] H := hP.sub [] rfl
            have hDc : va_D A [] := hD.sub [] (by decide) rfl
            have hFc := va_free (wc := []) hD hS hA [] rfl
            refine va_calli (va_runS (As := [.int (d_st (44 + (4 * x6_6)).toNatClampNeg), .int x3, .int x4]) (rest := [.int x1, .int x6_6, .ref p_this]) ⟨hx, hb, hml, hown, hts⟩ (c_X6_in l dC dI cI cZ H.size (d_st (44 + (4 * x6_6)).toNatClampNeg) x3 x4 (f_X6_in (d_st (44 + (4 * x6_6)).toNatClampNeg) x3 x4) rfl) (va_cwS 3 hts gX6_maySpeak_X6_in rfl rfl rfl (by decide +kernel) ⟨Nat.le_of_ble_eq_true rfl, Nat.le_of_ble_eq_true rfl⟩) ⟨fun a U g mk q => ⟨q.1, PC.mv q.2⟩, fun U hU hW => ⟨rfl, PC.of hU hW hPc hK hDc hN⟩⟩ rfl rfl hl.1 rfl (lv_room (Nat.le_of_ble_eq_true rfl)) dX6_maySpeak_69 ⟨Nat.zero_le _, Nat.zero_le _⟩) hS (fun q _ h => hFc q h) hFc (fun r_69 u t H1 locs ht hvm hw hB hz1 hk1 hS => ?_)
            obtain ⟨hP1, hD1⟩ := hB
            try dsimp only at hw
            rw [hw]
            rw [ht] at hP1
            have hP : va_P (dC, dI) vwCl [(p_this, .inr (6, [.int d_dishes, .int d_speakers, .ref p_speaker, .int d_noises, .ref p_noise, .int d_askers, .ref p_asker, .ref p_st, .ref p_images, .ref p_isKept, .long d_trace, .ref p_text, .int d_texted, .int d_cursor, .int d_start, .int d_token, .int d_number, .long d_word, .int d_isWrong, .int d_saidDishes, .ref p_saidMount, .int d_saidSpeakers, .ref p_saidSpeaker, .int d_saidNoises, .ref p_saidNoise, .int d_saidAskers, .ref p_saidAsker, .ref p_room, .int d_couldBe, .int d_couldHere])), (p_st, .inl (cI, 104, .inl d_st))] H1 := join_ro hP hD [] rfl hk1 hP1
            clear hPc hDc hFc hk1 hz1 hP1 hD1 ht hvm
            generalize H1 = H at hP hS ⊢
            refine lv_if_eq (tgt := 79) hx hb dX6_maySpeak_72 (by decide) (fun c_72 => ?_) (fun c_72 => ?_)
            · rw [if_pos c_72] at hrun
              refine lv_iconst (v := 0) hx hb dX6_maySpeak_79 (by decide) ?_
              exact J80 0 H locs hP hD hS ls (lv_sub hl [1, 2, 3, 4, 5, 7] rfl) hrun
            · rw [if_neg c_72] at hrun
              refine lv_iconst (v := 1) hx hb dX6_maySpeak_75 (by decide) ?_
              refine lv_goto (tgt := 80) hx hb dX6_maySpeak_76 (by decide) ?_
              exact J80 1 H locs hP hD hS ls (lv_sub hl [1, 2, 3, 4, 5, 7] rfl) hrun
  exact L6 FU 1 0 H locs hP hD hS ls (lv_sub hl [2, 3, 4, 5, 6, 1, 0] rfl) hrun
-- SkyListenersModel.sky
def f_X6_sky_J39 (K13 : Int32 → Int32 → Option (Int32)) (x1 : Int32) (x3 : Int32) (t0 : Int32) (d_st : Nat → Int32) (t1 : Int32) : Option (Int32) := (K13 (t0 ||| t1) (x3 + 1))
def f_X6_sky_L13 (x1 : Int32) (d_st : Nat → Int32) : Nat → Int32 → Int32 → Option (Int32)
  | 0, _, _ => none
  | n9 + 1, x2, x3 => (if 8 ≤ x3 then (some x2) else ((f_X6_maySpeak d_st x1 x3 0 23).bind fun q26 => (if q26 = 0 then (f_X6_sky_J39 (f_X6_sky_L13  x1 d_st n9) x1 x3 x2 d_st 0) else (f_X6_sky_J39 (f_X6_sky_L13  x1 d_st n9) x1 x3 x2 d_st (1 <<< (x3 &&& 31))))))
def f_X6_sky (d_st : Nat → Int32) (x1 : Int32) : Option (Int32) := (if (f_X6_isNote x1) = 0 then (some (-1)) else (f_X6_sky_L13 x1 d_st FU 0 0))
set_option maxHeartbeats 4000000 in
set_option maxRecDepth 100000 in
theorem c_X6_sky (l : Launch) (dC : Nat → ClassId) (dI : Nat → Nat → Nat) (cI cZ : ClassId) (sz : Nat) (p_asker p_images p_isKept p_noise p_room p_saidAsker p_saidMount p_saidNoise p_saidSpeaker p_speaker p_st p_text p_this : Nat) (d_dishes : Int32) (d_speakers : Int32) (d_noises : Int32) (d_askers : Int32) (d_trace : Int64) (d_texted : Int32) (d_cursor : Int32) (d_start : Int32) (d_token : Int32) (d_number : Int32) (d_word : Int64) (d_isWrong : Int32) (d_saidDishes : Int32) (d_saidSpeakers : Int32) (d_saidNoises : Int32) (d_saidAskers : Int32) (d_couldBe : Int32) (d_couldHere : Int32) (d_st : Nat → Int32) (x1 : Int32) (out : Int32) (hrun : f_X6_sky d_st x1 = some out) : Met l yX6_sky wsX6_sky ({ frames := 2, cells := 0, slots := 0, locals := 51 } : Room) (va_Pc [.ref p_this, .int x1] (PC dC dI cI cZ sz ([(p_this, .inr (6, [.int d_dishes, .int d_speakers, .ref p_speaker, .int d_noises, .ref p_noise, .int d_askers, .ref p_asker, .ref p_st, .ref p_images, .ref p_isKept, .long d_trace, .ref p_text, .int d_texted, .int d_cursor, .int d_start, .int d_token, .int d_number, .long d_word, .int d_isWrong, .int d_saidDishes, .ref p_saidMount, .int d_saidSpeakers, .ref p_saidSpeaker, .int d_saidNoises, .ref p_saidNoise, .int d_saidAskers, .ref p_saidAsker, .ref p_room, .int d_couldBe, .int d_couldHere])), (p_st, .inl (cI, 104, .inl d_st))] : va_W))) (va_Qi (fun r (_ : Unit) => r = out) (fun _ t => va_P (dC, dI) vwCl [(p_this, .inr (6, [.int d_dishes, .int d_speakers, .ref p_speaker, .int d_noises, .ref p_noise, .int d_askers, .ref p_asker, .ref p_st, .ref p_images, .ref p_isKept, .long d_trace, .ref p_text, .int d_texted, .int d_cursor, .int d_start, .int d_token, .int d_number, .long d_word, .int d_isWrong, .int d_saidDishes, .ref p_saidMount, .int d_saidSpeakers, .ref p_saidSpeaker, .int d_saidNoises, .ref p_saidNoise, .int d_saidAskers, .ref p_saidAsker, .ref p_room, .int d_couldBe, .int d_couldHere])), (p_st, .inl (cI, 104, .inl d_st))] t.heap ∧ va_D (va_A ([(p_this, .inr (6, [.int d_dishes, .int d_speakers, .ref p_speaker, .int d_noises, .ref p_noise, .int d_askers, .ref p_asker, .ref p_st, .ref p_images, .ref p_isKept, .long d_trace, .ref p_text, .int d_texted, .int d_cursor, .int d_start, .int d_token, .int d_number, .long d_word, .int d_isWrong, .int d_saidDishes, .ref p_saidMount, .int d_saidSpeakers, .ref p_saidSpeaker, .int d_saidNoises, .ref p_saidNoise, .int d_saidAskers, .ref p_saidAsker, .ref p_room, .int d_couldBe, .int d_couldHere])), (p_st, .inl (cI, 104, .inl d_st))] : va_W) sz) [(p_this, .inr (6, [.int d_dishes, .int d_speakers, .ref p_speaker, .int d_noises, .ref p_noise, .int d_askers, .ref p_asker, .ref p_st, .ref p_images, .ref p_isKept, .long d_trace, .ref p_text, .int d_texted, .int d_cursor, .int d_start, .int d_token, .int d_number, .long d_word, .int d_isWrong, .int d_saidDishes, .ref p_saidMount, .int d_saidSpeakers, .ref p_saidSpeaker, .int d_saidNoises, .ref p_saidNoise, .int d_saidAskers, .ref p_saidAsker, .ref p_room, .int d_couldBe, .int d_couldHere])), (p_st, .inl (cI, 104, .inl d_st))]) (va_A ([(p_this, .inr (6, [.int d_dishes, .int d_speakers, .ref p_speaker, .int d_noises, .ref p_noise, .int d_askers, .ref p_asker, .ref p_st, .ref p_images, .ref p_isKept, .long d_trace, .ref p_text, .int d_texted, .int d_cursor, .int d_start, .int d_token, .int d_number, .long d_word, .int d_isWrong, .int d_saidDishes, .ref p_saidMount, .int d_saidSpeakers, .ref p_saidSpeaker, .int d_saidNoises, .ref p_saidNoise, .int d_saidAskers, .ref p_saidAsker, .ref p_room, .int d_couldBe, .int d_couldHere])), (p_st, .inl (cI, 104, .inl d_st))] : va_W) sz)) 0 0 (va_A ([(p_this, .inr (6, [.int d_dishes, .int d_speakers, .ref p_speaker, .int d_noises, .ref p_noise, .int d_askers, .ref p_asker, .ref p_st, .ref p_images, .ref p_isKept, .long d_trace, .ref p_text, .int d_texted, .int d_cursor, .int d_start, .int d_token, .int d_number, .long d_word, .int d_isWrong, .int d_saidDishes, .ref p_saidMount, .int d_saidSpeakers, .ref p_saidSpeaker, .int d_saidNoises, .ref p_saidNoise, .int d_saidAskers, .ref p_saidAsker, .ref p_room, .int d_couldBe, .int d_couldHere])), (p_st, .inl (cI, 104, .inl d_st))] : va_W) sz) := by
  refine Met.ofW (cc := cX6_sky) (maxL := 4) (ret := (some .int)) (by decide) rfl ?_
  intro p e s m args below meth c s₁ B hml hv
  obtain ⟨rfl, hsz, hP, hK, hD0, hN⟩ := hv
  have hx := B.exec
  have hb := B.bytes
  have hr := B.returns
  have hts := atoms_spec (ws := wsX6_sky) B.pre
  have hown : s.vm.findClass RX6 = some m.cls := findClass_of_methodNamed B.named
  have hlocks := B.notSynchronized
  subst hsz
  have hD := hD0.self (sz := s.heap.size)
  generalize hAe : va_A ([(p_this, .inr (6, [.int d_dishes, .int d_speakers, .ref p_speaker, .int d_noises, .ref p_noise, .int d_askers, .ref p_asker, .ref p_st, .ref p_images, .ref p_isKept, .long d_trace, .ref p_text, .int d_texted, .int d_cursor, .int d_start, .int d_token, .int d_number, .long d_word, .int d_isWrong, .int d_saidDishes, .ref p_saidMount, .int d_saidSpeakers, .ref p_saidSpeaker, .int d_saidNoises, .ref p_saidNoise, .int d_saidAskers, .ref p_saidAsker, .ref p_room, .int d_couldBe, .int d_couldHere])), (p_st, .inl (cI, 104, .inl d_st))] : va_W) s.heap.size = A at hD ⊢
  have hA : ∀ q : Nat, s.heap.size ≤ q → A q := fun q h => by rw [← hAe]; exact Or.inr h
  have hS : va_S A s.heap s.heap [] := va_S.rf
  refine W_abs (fun Q hQ => ?_)
  have hl := lv_entry ([.ref p_this, .int x1]) (n := 4) (Nat.le_of_ble_eq_true rfl)
  rw [lg_entry_eq]
  generalize (lg_sl ([.ref p_this, .int x1]) ++ List.replicate (4 - (lg_sl ([.ref p_this, .int x1])).length) Slot.unset).toArray = ls at hl ⊢
  have hl : lv_has ls 4 [(0, .ref p_this), (1, .int x1)] := hl
  rw [f_X6_sky] at hrun
  refine W_start (ws := [(p_this, .inr (6, [.int d_dishes, .int d_speakers, .ref p_speaker, .int d_noises, .ref p_noise, .int d_askers, .ref p_asker, .ref p_st, .ref p_images, .ref p_isKept, .long d_trace, .ref p_text, .int d_texted, .int d_cursor, .int d_start, .int d_token, .int d_number, .long d_word, .int d_isWrong, .int d_saidDishes, .ref p_saidMount, .int d_saidSpeakers, .ref p_saidSpeaker, .int d_saidNoises, .ref p_saidNoise, .int d_saidAskers, .ref p_saidAsker, .ref p_room, .int d_couldBe, .int d_couldHere])), (p_st, .inl (cI, 104, .inl d_st))]) hP hS (fun H locs hP hS => ?_)
  refine lv_iload_n hx hb dX6_sky_0 rfl (lv_at hl 1 rfl) ?_
  have hPc : va_P (dC, dI) vwCl [] H := hP.sub [] rfl
  have hDc : va_D A [] := hD.sub [] (by decide) rfl
  have hFc := va_free (wc := []) hD hS hA [] rfl
  refine va_calli (va_runS (As := [.int x1]) (rest := []) ⟨hx, hb, hml, hown, hts⟩ (c_X6_isNote l dC dI cI cZ H.size x1 (f_X6_isNote x1) rfl) (va_cwS 1 hts gX6_sky_X6_isNote rfl rfl rfl (by decide +kernel) ⟨Nat.le_of_ble_eq_true rfl, Nat.le_of_ble_eq_true rfl⟩) ⟨fun a U g mk q => ⟨q.1, PC.mv q.2⟩, fun U hU hW => ⟨rfl, PC.of hU hW hPc hK hDc hN⟩⟩ rfl rfl hl.1 rfl (lv_room (Nat.le_of_ble_eq_true rfl)) dX6_sky_1 ⟨Nat.zero_le _, Nat.zero_le _⟩) hS (fun q _ h => hFc q h) hFc (fun r_1 u t H1 locs ht hvm hw hB hz1 hk1 hS => ?_)
  obtain ⟨hP1, hD1⟩ := hB
  try dsimp only at hw
  rw [hw]
  rw [ht] at hP1
  have hP : va_P (dC, dI) vwCl [(p_this, .inr (6, [.int d_dishes, .int d_speakers, .ref p_speaker, .int d_noises, .ref p_noise, .int d_askers, .ref p_asker, .ref p_st, .ref p_images, .ref p_isKept, .long d_trace, .ref p_text, .int d_texted, .int d_cursor, .int d_start, .int d_token, .int d_number, .long d_word, .int d_isWrong, .int d_saidDishes, .ref p_saidMount, .int d_saidSpeakers, .ref p_saidSpeaker, .int d_saidNoises, .ref p_saidNoise, .int d_saidAskers, .ref p_saidAsker, .ref p_room, .int d_couldBe, .int d_couldHere])), (p_st, .inl (cI, 104, .inl d_st))] H1 := join_ro hP hD [] rfl hk1 hP1
  clear hPc hDc hFc hk1 hz1 hP1 hD1 ht hvm
  generalize H1 = H at hP hS ⊢
  refine lv_if_ne (tgt := 9) hx hb dX6_sky_4 (by decide) (fun c_4 => ?_) (fun c_4 => ?_)
  · rw [if_neg c_4] at hrun
    refine lv_iconst (v := 0) hx hb dX6_sky_9 (by decide) ?_
    refine lv_istore_n (lv' := [(2, .int 0), (0, .ref p_this), (1, .int x1)]) hx hb dX6_sky_10 rfl hl (by decide) rfl (fun ls hl => ?_)
    refine lv_iconst (v := 0) hx hb dX6_sky_11 (by decide) ?_
    refine lv_istore_n (lv' := [(3, .int 0), (2, .int 0), (0, .ref p_this), (1, .int x1)]) hx hb dX6_sky_12 rfl hl (by decide) rfl (fun ls hl => ?_)
    have L13 : ∀ (n9_13 : Nat) (x2_13 : Int32) (x3_13 : Int32) (H : Heap) (locs : List Loc), va_P (dC, dI) vwCl [(p_this, .inr (6, [.int d_dishes, .int d_speakers, .ref p_speaker, .int d_noises, .ref p_noise, .int d_askers, .ref p_asker, .ref p_st, .ref p_images, .ref p_isKept, .long d_trace, .ref p_text, .int d_texted, .int d_cursor, .int d_start, .int d_token, .int d_number, .long d_word, .int d_isWrong, .int d_saidDishes, .ref p_saidMount, .int d_saidSpeakers, .ref p_saidSpeaker, .int d_saidNoises, .ref p_saidNoise, .int d_saidAskers, .ref p_saidAsker, .ref p_room, .int d_couldBe, .int d_couldHere])), (p_st, .inl (cI, 104, .inl d_st))] H → va_D A [(p_this, .inr (6, [.int d_dishes, .int d_speakers, .ref p_speaker, .int d_noises, .ref p_noise, .int d_askers, .ref p_asker, .ref p_st, .ref p_images, .ref p_isKept, .long d_trace, .ref p_text, .int d_texted, .int d_cursor, .int d_start, .int d_token, .int d_number, .long d_word, .int d_isWrong, .int d_saidDishes, .ref p_saidMount, .int d_saidSpeakers, .ref p_saidSpeaker, .int d_saidNoises, .ref p_saidNoise, .int d_saidAskers, .ref p_saidAsker, .ref p_room, .int d_couldBe, .int d_couldHere])), (p_st, .inl (cI, 104, .inl d_st))] → va_S A s.heap H locs → ∀ ls : Array Slot, lv_has ls 4 [(0, .ref p_this), (1, .int x1), (2, .int x2_13), (3, .int x3_13)] → f_X6_sky_L13 x1 d_st n9_13 x2_13 x3_13 = some out → W p l e ({ frames := 2, cells := 0, slots := 0, locals := 51 } : Room) s m ([.ref p_this, .int x1] : List Value).toArray below meth c H locs 0 0 Q (F0 m 13 ls []) := by
      intro n9_13
      induction n9_13 with
      | zero =>
        intro x2_13 x3_13 H locs hP hD hS ls hl hrun
        rw [f_X6_sky_L13] at hrun
        cases hrun
      | succ n9_13 ih13 =>
        intro x2_13 x3_13 H locs hP hD hS ls hl hrun
        rw [f_X6_sky_L13] at hrun
        refine lv_iload_n hx hb dX6_sky_13 rfl (lv_at hl 3 rfl) ?_
        refine lv_bipush (v := 8) hx hb dX6_sky_14 (by decide) ?_
        refine lv_icmp_ge (tgt := 47) hx hb dX6_sky_16 (by decide) (fun c_16 => ?_) (fun c_16 => ?_)
        · rw [if_pos c_16] at hrun
          refine lv_iload_n hx hb dX6_sky_47 rfl (lv_at hl 2 rfl) ?_
          have hrun := Option.some.inj hrun
          subst hrun
          rw [hQ]
          exact W.iret (v := x2_13) hx hb hr (fun t ht hW => ⟨⟨x2_13, (), rfl, rfl, by rw [ht]; exact hP, hD⟩, hS.F ht⟩) hS.2.2 dX6_sky_48
        · rw [if_neg c_16] at hrun
          refine lv_iload_n hx hb dX6_sky_19 rfl (lv_at hl 2 rfl) ?_
          refine lv_aload_n hx hb dX6_sky_20 rfl (lv_at hl 0 rfl) ?_
          refine lv_iload_n hx hb dX6_sky_21 rfl (lv_at hl 1 rfl) ?_
          refine lv_iload_n hx hb dX6_sky_22 rfl (lv_at hl 3 rfl) ?_
          refine lv_iconst (v := 0) hx hb dX6_sky_23 (by decide) ?_
          refine lv_bipush (v := 23) hx hb dX6_sky_24 (by decide) ?_
          obtain ⟨q26, hq26, hrun⟩ := bind_out hrun
          have hPc : va_P (dC, dI) vwCl [(p_this, .inr (6, [.int d_dishes, .int d_speakers, .ref p_speaker, .int d_noises, .ref p_noise, .int d_askers, .ref p_asker, .ref p_st, .ref p_images, .ref p_isKept, .long d_trace, .ref p_text, .int d_texted, .int d_cursor, .int d_start, .int d_token, .int d_number, .long d_word, .int d_isWrong, .int d_saidDishes, .ref p_saidMount, .int d_saidSpeakers, .ref p_saidSpeaker, .int d_saidNoises, .ref p_saidNoise, .int d_saidAskers, .ref p_saidAsker, .ref p_room, .int d_couldBe, .int d_couldHere])), (p_st, .inl (cI, 104, .inl d_st))] H := hP.sub [0, 1] rfl
          have hDc : va_D A [(p_this, .inr (6, [.int d_dishes, .int d_speakers, .ref p_speaker, .int d_noises, .ref p_noise, .int d_askers, .ref p_asker, .ref p_st, .ref p_images, .ref p_isKept, .long d_trace, .ref p_text, .int d_texted, .int d_cursor, .int d_start, .int d_token, .int d_number, .long d_word, .int d_isWrong, .int d_saidDishes, .ref p_saidMount, .int d_saidSpeakers, .ref p_saidSpeaker, .int d_saidNoises, .ref p_saidNoise, .int d_saidAskers, .ref p_saidAsker, .ref p_room, .int d_couldBe, .int d_couldHere])), (p_st, .inl (cI, 104, .inl d_st))] := hD.sub [0, 1] (by decide) rfl
          have hFc := va_free (wc := [(p_this, .inr (6, [.int d_dishes, .int d_speakers, .ref p_speaker, .int d_noises, .ref p_noise, .int d_askers, .ref p_asker, .ref p_st, .ref p_images, .ref p_isKept, .long d_trace, .ref p_text, .int d_texted, .int d_cursor, .int d_start, .int d_token, .int d_number, .long d_word, .int d_isWrong, .int d_saidDishes, .ref p_saidMount, .int d_saidSpeakers, .ref p_saidSpeaker, .int d_saidNoises, .ref p_saidNoise, .int d_saidAskers, .ref p_saidAsker, .ref p_room, .int d_couldBe, .int d_couldHere])), (p_st, .inl (cI, 104, .inl d_st))]) hD hS hA [0, 1] rfl
          refine va_calli (va_runV (As := [.int x1, .int x3_13, .int 0, .int 23]) (rest := [.int x2_13]) ⟨hx, hb, hml, hown, hts⟩ (c_X6_maySpeak l dC dI cI cZ H.size p_asker p_images p_isKept p_noise p_room p_saidAsker p_saidMount p_saidNoise p_saidSpeaker p_speaker p_st p_text p_this d_dishes d_speakers d_noises d_askers d_trace d_texted d_cursor d_start d_token d_number d_word d_isWrong d_saidDishes d_saidSpeakers d_saidNoises d_saidAskers d_couldBe d_couldHere d_st x1 x3_13 0 23 q26 hq26) (cwV 4 hts gX6_sky_X6_maySpeak rfl rfl rfl (by decide +kernel) ⟨Nat.le_of_ble_eq_true rfl, Nat.le_of_ble_eq_true rfl⟩) ⟨fun a U g mk q => ⟨q.1, PC.mv q.2⟩, va_recv hK hP (ci := 6) (q0 := 0) rfl rfl, fun U hU hW => ⟨rfl, PC.of hU hW hPc hK hDc hN⟩⟩ rfl rfl hl.1 rfl (lv_room (Nat.le_of_ble_eq_true rfl)) dX6_sky_26 ⟨Nat.zero_le _, Nat.zero_le _⟩) hS (fun q _ h => hFc q h) hFc (fun r_26 u t H1 locs ht hvm hw hB hz1 hk1 hS => ?_)
          obtain ⟨hP1, hD1⟩ := hB
          try dsimp only at hw
          rw [hw]
          rw [ht] at hP1
          have hP : va_P (dC, dI) vwCl [(p_this, .inr (6, [.int d_dishes, .int d_speakers, .ref p_speaker, .int d_noises, .ref p_noise, .int d_askers, .ref p_asker, .ref p_st, .ref p_images, .ref p_isKept, .long d_trace, .ref p_text, .int d_texted, .int d_cursor, .int d_start, .int d_token, .int d_number, .long d_word, .int d_isWrong, .int d_saidDishes, .ref p_saidMount, .int d_saidSpeakers, .ref p_saidSpeaker, .int d_saidNoises, .ref p_saidNoise, .int d_saidAskers, .ref p_saidAsker, .ref p_room, .int d_couldBe, .int d_couldHere])), (p_st, .inl (cI, 104, .inl d_st))] H1 := join_ro hP hD [0, 1] rfl hk1 hP1
          clear hPc hDc hFc hk1 hz1 hP1 hD1 ht hvm
          generalize H1 = H at hP hS ⊢
          have J39 : ∀ (t1_39 : Int32) (H : Heap) (locs : List Loc), va_P (dC, dI) vwCl [(p_this, .inr (6, [.int d_dishes, .int d_speakers, .ref p_speaker, .int d_noises, .ref p_noise, .int d_askers, .ref p_asker, .ref p_st, .ref p_images, .ref p_isKept, .long d_trace, .ref p_text, .int d_texted, .int d_cursor, .int d_start, .int d_token, .int d_number, .long d_word, .int d_isWrong, .int d_saidDishes, .ref p_saidMount, .int d_saidSpeakers, .ref p_saidSpeaker, .int d_saidNoises, .ref p_saidNoise, .int d_saidAskers, .ref p_saidAsker, .ref p_room, .int d_couldBe, .int d_couldHere])), (p_st, .inl (cI, 104, .inl d_st))] H → va_D A [(p_this, .inr (6, [.int d_dishes, .int d_speakers, .ref p_speaker, .int d_noises, .ref p_noise, .int d_askers, .ref p_asker, .ref p_st, .ref p_images, .ref p_isKept, .long d_trace, .ref p_text, .int d_texted, .int d_cursor, .int d_start, .int d_token, .int d_number, .long d_word, .int d_isWrong, .int d_saidDishes, .ref p_saidMount, .int d_saidSpeakers, .ref p_saidSpeaker, .int d_saidNoises, .ref p_saidNoise, .int d_saidAskers, .ref p_saidAsker, .ref p_room, .int d_couldBe, .int d_couldHere])), (p_st, .inl (cI, 104, .inl d_st))] → va_S A s.heap H locs → ∀ ls : Array Slot, lv_has ls 4 [(0, .ref p_this), (1, .int x1), (3, .int x3_13)] → f_X6_sky_J39 (f_X6_sky_L13 x1 d_st n9_13) x1 x3_13 x2_13 d_st t1_39 = some out → W p l e ({ frames := 2, cells := 0, slots := 0, locals := 51 } : Room) s m ([.ref p_this, .int x1] : List Value).toArray below meth c H locs 0 0 Q (F0 m 39 ls [.int t1_39, .int x2_13]) := by
            intro t1_39 H locs hP hD hS ls hl hrun
            rw [f_X6_sky_J39] at hrun
            refine lv_ior hx hb dX6_sky_39 ?_
            refine lv_istore_n (lv' := [(2, .int (x2_13 ||| t1_39)), (0, .ref p_this), (1, .int x1), (3, .int x3_13)]) hx hb dX6_sky_40 rfl hl (by decide) rfl (fun ls hl => ?_)
            refine lv_iinc (v := x3_13 + 1) (lv' := [(3, .int (x3_13 + 1)), (2, .int (x2_13 ||| t1_39)), (0, .ref p_this), (1, .int x1)]) hx hb dX6_sky_41 hl (k := 3) rfl rfl (by decide) rfl (fun ls hl => ?_)
            refine lv_goto (tgt := 13) hx hb dX6_sky_44 (by decide) ?_
            exact ih13 (x2_13 ||| t1_39) (x3_13 + 1) H locs hP hD hS ls (lv_sub hl [2, 3, 1, 0] rfl) hrun
          refine lv_if_eq (tgt := 38) hx hb dX6_sky_29 (by decide) (fun c_29 => ?_) (fun c_29 => ?_)
          · rw [if_pos c_29] at hrun
            refine lv_iconst (v := 0) hx hb dX6_sky_38 (by decide) ?_
            exact J39 0 H locs hP hD hS ls (lv_sub hl [0, 1, 3] rfl) hrun
          · rw [if_neg c_29] at hrun
            refine lv_iconst (v := 1) hx hb dX6_sky_32 (by decide) ?_
            refine lv_iload_n hx hb dX6_sky_33 rfl (lv_at hl 3 rfl) ?_
            refine lv_ishl hx hb dX6_sky_34 ?_
            refine lv_goto (tgt := 39) hx hb dX6_sky_35 (by decide) ?_
            exact J39 (1 <<< (x3_13 &&& 31)) H locs hP hD hS ls (lv_sub hl [0, 1, 3] rfl) hrun
    exact L13 FU 0 0 H locs hP hD hS ls (lv_sub hl [2, 3, 1, 0] rfl) hrun
  · rw [if_pos c_4] at hrun
    refine lv_iconst (v := (-1)) hx hb dX6_sky_7 (by decide) ?_
    have hrun := Option.some.inj hrun
    subst hrun
    rw [hQ]
    exact W.iret (v := (-1)) hx hb hr (fun t ht hW => ⟨⟨(-1), (), rfl, rfl, by rw [ht]; exact hP, hD⟩, hS.F ht⟩) hS.2.2 dX6_sky_8
