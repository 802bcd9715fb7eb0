-- SkyListenersModel.kettleMark
def f_X6_kettleMark_X69 (x1 : Int32) (d_noises : Int32) (d_trace : Int64) (d_noise : Nat → Int32) (x2 : Int32) : Option (Int32 × Int64) := ((f_X6_humMark d_noises d_trace d_noise x1).bind fun q71 => (some (q71.1 + x2, q71.2)))
def f_X6_kettleMark_J61 (K16 : Int32 → Int32 → Option (Int32 × Int64)) (x1 : Int32) (x3 : Int32) (t0 : Int32) (d_noises : Int32) (d_trace : Int64) (d_noise : Nat → Int32) (d_st : Nat → Int32) (t1 : Int32) : Option (Int32 × Int64) := (K16 (t0 + t1) (x3 + 1))
def f_X6_kettleMark_L16 (K69 : Int32 → Option (Int32 × Int64)) (x1 : Int32) (d_noises : Int32) (d_trace : Int64) (d_noise : Nat → Int32) (d_st : Nat → Int32) : Nat → Int32 → Int32 → Option (Int32 × Int64)
  | 0, _, _ => none
  | n9 + 1, x2, x3 => (if (d_st (Int32.toNatClampNeg 1)) ≤ x3 then (K69 x2) else (if ((44 + (4 * x3)) + 2) < 0 ∨ 104 ≤ ((44 + (4 * x3)) + 2).toNatClampNeg then none else (if (d_st ((44 + (4 * x3)) + 2).toNatClampNeg) = x1 then (if ((44 + (4 * x3)) + 3) < 0 ∨ 104 ≤ ((44 + (4 * x3)) + 3).toNatClampNeg then none else (f_X6_kettleMark_J61 (f_X6_kettleMark_L16 K69 x1 d_noises d_trace d_noise d_st n9) x1 x3 x2 d_noises d_trace d_noise d_st (d_st ((44 + (4 * x3)) + 3).toNatClampNeg))) else (f_X6_kettleMark_J61 (f_X6_kettleMark_L16 K69 x1 d_noises d_trace d_noise d_st n9) x1 x3 x2 d_noises d_trace d_noise d_st 0))))
def f_X6_kettleMark (d_noises : Int32) (d_trace : Int64) (d_noise : Nat → Int32) (d_st : Nat → Int32) (x1 : Int32) : Option (Int32 × Int64) := (f_X6_kettleMark_L16 (f_X6_kettleMark_X69 x1 d_noises (d_trace + 10000) d_noise) x1 d_noises (d_trace + 10000) d_noise d_st FU 0 0)
set_option maxHeartbeats 4000000 in
set_option maxRecDepth 100000 in
theorem c_X6_kettleMark (l : Launch) (dC : Nat → ClassId) (dI : Nat → Nat → Nat) (cI cZ : ClassId) (sz : Nat) (p_asker p_images p_isKept p_noise p_room p_saidAsker p_saidMount p_saidNoise p_saidSpeaker p_speaker p_st p_text p_this : Nat) (d_dishes : Int32) (d_speakers : Int32) (d_noises : Int32) (d_askers : Int32) (d_trace : Int64) (d_texted : Int32) (d_cursor : Int32) (d_start : Int32) (d_token : Int32) (d_number : Int32) (d_word : Int64) (d_isWrong : Int32) (d_saidDishes : Int32) (d_saidSpeakers : Int32) (d_saidNoises : Int32) (d_saidAskers : Int32) (d_couldBe : Int32) (d_couldHere : Int32) (d_noise : Nat → Int32) (d_st : Nat → Int32) (x1 : Int32) (out : Int32 × Int64) (hrun : f_X6_kettleMark d_noises d_trace d_noise d_st x1 = some out) : Met l yX6_kettleMark wsX6_kettleMark ({ frames := 2, cells := 0, slots := 0, locals := 44 } : Room) (va_Pc [.ref p_this, .int x1] (PC dC dI cI cZ sz ([(p_this, .inr (6, [.int d_dishes, .int d_speakers, .ref p_speaker, .int d_noises, .ref p_noise, .int d_askers, .ref p_asker, .ref p_st, .ref p_images, .ref p_isKept, .long d_trace, .ref p_text, .int d_texted, .int d_cursor, .int d_start, .int d_token, .int d_number, .long d_word, .int d_isWrong, .int d_saidDishes, .ref p_saidMount, .int d_saidSpeakers, .ref p_saidSpeaker, .int d_saidNoises, .ref p_saidNoise, .int d_saidAskers, .ref p_saidAsker, .ref p_room, .int d_couldBe, .int d_couldHere])), (p_noise, .inl (cI, 9, .inl d_noise)), (p_st, .inl (cI, 104, .inl d_st))] : va_W))) (va_Qi (fun r (_ : Unit) => r = out.1) (fun _ t => va_P (dC, dI) vwCl [(p_this, .inr (6, [.int d_dishes, .int d_speakers, .ref p_speaker, .int d_noises, .ref p_noise, .int d_askers, .ref p_asker, .ref p_st, .ref p_images, .ref p_isKept, .long out.2, .ref p_text, .int d_texted, .int d_cursor, .int d_start, .int d_token, .int d_number, .long d_word, .int d_isWrong, .int d_saidDishes, .ref p_saidMount, .int d_saidSpeakers, .ref p_saidSpeaker, .int d_saidNoises, .ref p_saidNoise, .int d_saidAskers, .ref p_saidAsker, .ref p_room, .int d_couldBe, .int d_couldHere])), (p_noise, .inl (cI, 9, .inl d_noise)), (p_st, .inl (cI, 104, .inl d_st))] t.heap ∧ va_D (va_A ([(p_this, .inr (6, [.int d_dishes, .int d_speakers, .ref p_speaker, .int d_noises, .ref p_noise, .int d_askers, .ref p_asker, .ref p_st, .ref p_images, .ref p_isKept, .long d_trace, .ref p_text, .int d_texted, .int d_cursor, .int d_start, .int d_token, .int d_number, .long d_word, .int d_isWrong, .int d_saidDishes, .ref p_saidMount, .int d_saidSpeakers, .ref p_saidSpeaker, .int d_saidNoises, .ref p_saidNoise, .int d_saidAskers, .ref p_saidAsker, .ref p_room, .int d_couldBe, .int d_couldHere])), (p_noise, .inl (cI, 9, .inl d_noise)), (p_st, .inl (cI, 104, .inl d_st))] : va_W) sz) [(p_this, .inr (6, [.int d_dishes, .int d_speakers, .ref p_speaker, .int d_noises, .ref p_noise, .int d_askers, .ref p_asker, .ref p_st, .ref p_images, .ref p_isKept, .long out.2, .ref p_text, .int d_texted, .int d_cursor, .int d_start, .int d_token, .int d_number, .long d_word, .int d_isWrong, .int d_saidDishes, .ref p_saidMount, .int d_saidSpeakers, .ref p_saidSpeaker, .int d_saidNoises, .ref p_saidNoise, .int d_saidAskers, .ref p_saidAsker, .ref p_room, .int d_couldBe, .int d_couldHere])), (p_noise, .inl (cI, 9, .inl d_noise)), (p_st, .inl (cI, 104, .inl d_st))]) (va_A ([(p_this, .inr (6, [.int d_dishes, .int d_speakers, .ref p_speaker, .int d_noises, .ref p_noise, .int d_askers, .ref p_asker, .ref p_st, .ref p_images, .ref p_isKept, .long d_trace, .ref p_text, .int d_texted, .int d_cursor, .int d_start, .int d_token, .int d_number, .long d_word, .int d_isWrong, .int d_saidDishes, .ref p_saidMount, .int d_saidSpeakers, .ref p_saidSpeaker, .int d_saidNoises, .ref p_saidNoise, .int d_saidAskers, .ref p_saidAsker, .ref p_room, .int d_couldBe, .int d_couldHere])), (p_noise, .inl (cI, 9, .inl d_noise)), (p_st, .inl (cI, 104, .inl d_st))] : va_W) sz)) 0 0 (va_A ([(p_this, .inr (6, [.int d_dishes, .int d_speakers, .ref p_speaker, .int d_noises, .ref p_noise, .int d_askers, .ref p_asker, .ref p_st, .ref p_images, .ref p_isKept, .long d_trace, .ref p_text, .int d_texted, .int d_cursor, .int d_start, .int d_token, .int d_number, .long d_word, .int d_isWrong, .int d_saidDishes, .ref p_saidMount, .int d_saidSpeakers, .ref p_saidSpeaker, .int d_saidNoises, .ref p_saidNoise, .int d_saidAskers, .ref p_saidAsker, .ref p_room, .int d_couldBe, .int d_couldHere])), (p_noise, .inl (cI, 9, .inl d_noise)), (p_st, .inl (cI, 104, .inl d_st))] : va_W) sz) := by
  refine Met.ofW (cc := cX6_kettleMark) (maxL := 4) (ret := (some .int)) (by decide) rfl ?_
  intro p e s m args below meth c s₁ B hml hv
  obtain ⟨rfl, hsz, hP, hK, hD0, hN⟩ := hv
  have hx := B.exec
  have hb := B.bytes
  have hr := B.returns
  have hts := atoms_spec (ws := wsX6_kettleMark) B.pre
  have hown : s.vm.findClass RX6 = some m.cls := findClass_of_methodNamed B.named
  have hlocks := B.notSynchronized
  subst hsz
  have hD := hD0.self (sz := s.heap.size)
  generalize hAe : va_A ([(p_this, .inr (6, [.int d_dishes, .int d_speakers, .ref p_speaker, .int d_noises, .ref p_noise, .int d_askers, .ref p_asker, .ref p_st, .ref p_images, .ref p_isKept, .long d_trace, .ref p_text, .int d_texted, .int d_cursor, .int d_start, .int d_token, .int d_number, .long d_word, .int d_isWrong, .int d_saidDishes, .ref p_saidMount, .int d_saidSpeakers, .ref p_saidSpeaker, .int d_saidNoises, .ref p_saidNoise, .int d_saidAskers, .ref p_saidAsker, .ref p_room, .int d_couldBe, .int d_couldHere])), (p_noise, .inl (cI, 9, .inl d_noise)), (p_st, .inl (cI, 104, .inl d_st))] : va_W) s.heap.size = A at hD ⊢
  have hA : ∀ q : Nat, s.heap.size ≤ q → A q := fun q h => by rw [← hAe]; exact Or.inr h
  have hS : va_S A s.heap s.heap [] := va_S.rf
  refine W_abs (fun Q hQ => ?_)
  have hl := lv_entry ([.ref p_this, .int x1]) (n := 4) (Nat.le_of_ble_eq_true rfl)
  rw [lg_entry_eq]
  generalize (lg_sl ([.ref p_this, .int x1]) ++ List.replicate (4 - (lg_sl ([.ref p_this, .int x1])).length) Slot.unset).toArray = ls at hl ⊢
  have hl : lv_has ls 4 [(0, .ref p_this), (1, .int x1)] := hl
  rw [f_X6_kettleMark] at hrun
  refine W_start (ws := [(p_this, .inr (6, [.int d_dishes, .int d_speakers, .ref p_speaker, .int d_noises, .ref p_noise, .int d_askers, .ref p_asker, .ref p_st, .ref p_images, .ref p_isKept, .long d_trace, .ref p_text, .int d_texted, .int d_cursor, .int d_start, .int d_token, .int d_number, .long d_word, .int d_isWrong, .int d_saidDishes, .ref p_saidMount, .int d_saidSpeakers, .ref p_saidSpeaker, .int d_saidNoises, .ref p_saidNoise, .int d_saidAskers, .ref p_saidAsker, .ref p_room, .int d_couldBe, .int d_couldHere])), (p_noise, .inl (cI, 9, .inl d_noise)), (p_st, .inl (cI, 104, .inl d_st))]) hP hS (fun H locs hP hS => ?_)
  have iwX6 : ∀ w ∈ wsX60, w ∈ wsX6_kettleMark := by decide +kernel
  refine lv_aload_n hx hb dX6_kettleMark_0 rfl (lv_at hl 0 rfl) ?_
  refine lv_dup hx hb dX6_kettleMark_1 rfl ?_
  refine va_get (D := (dC, dI)) (ci := 6) (v := .long d_trace) (C := RX6) (T := TX6) (N := 30) hx hb hts iwX6 hown hK hP 0 rfl rfl 10 (by decide) (hts (.fieldLink RX6 207 "SkyListenersModel" "trace" "J") (by decide +kernel)) (fun _ h9 => h9) rfl dX6_kettleMark_2 ?_
  refine lv_ldc2 (v := 10000) hx hb hown (hts (.constantLong RX6 217 (10000)) (by decide +kernel)) dX6_kettleMark_5 ?_
  refine lv_ladd hx hb dX6_kettleMark_8 ?_
  refine va_put (D := (dC, dI)) (ci := 6) (v := .long (d_trace + 10000)) (ty := .long) (C := RX6) (T := TX6) (N := 30) hx hb hts iwX6 tyX6 tyX6_ok nmX6 hown hK hP hD hS 0 rfl rfl 10 (by decide) (hts (.fieldLink RX6 207 "SkyListenersModel" "trace" "J") (by decide +kernel)) (fun _ h9 => h9) rfl (by decide +kernel) rfl rfl (Nat.le_of_ble_eq_true rfl) dX6_kettleMark_9 (fun H locs hP hD hS => ?_)
  have hP : va_P (dC, dI) vwCl [(p_this, .inr (6, [.int d_dishes, .int d_speakers, .ref p_speaker, .int d_noises, .ref p_noise, .int d_askers, .ref p_asker, .ref p_st, .ref p_images, .ref p_isKept, .long (d_trace + 10000), .ref p_text, .int d_texted, .int d_cursor, .int d_start, .int d_token, .int d_number, .long d_word, .int d_isWrong, .int d_saidDishes, .ref p_saidMount, .int d_saidSpeakers, .ref p_saidSpeaker, .int d_saidNoises, .ref p_saidNoise, .int d_saidAskers, .ref p_saidAsker, .ref p_room, .int d_couldBe, .int d_couldHere])), (p_noise, .inl (cI, 9, .inl d_noise)), (p_st, .inl (cI, 104, .inl d_st))] H := hP
  have hD : va_D A [(p_this, .inr (6, [.int d_dishes, .int d_speakers, .ref p_speaker, .int d_noises, .ref p_noise, .int d_askers, .ref p_asker, .ref p_st, .ref p_images, .ref p_isKept, .long (d_trace + 10000), .ref p_text, .int d_texted, .int d_cursor, .int d_start, .int d_token, .int d_number, .long d_word, .int d_isWrong, .int d_saidDishes, .ref p_saidMount, .int d_saidSpeakers, .ref p_saidSpeaker, .int d_saidNoises, .ref p_saidNoise, .int d_saidAskers, .ref p_saidAsker, .ref p_room, .int d_couldBe, .int d_couldHere])), (p_noise, .inl (cI, 9, .inl d_noise)), (p_st, .inl (cI, 104, .inl d_st))] := hD
  refine lv_iconst (v := 0) hx hb dX6_kettleMark_12 (by decide) ?_
  refine lv_istore_n (lv' := [(2, .int 0), (0, .ref p_this), (1, .int x1)]) hx hb dX6_kettleMark_13 rfl hl (by decide) rfl (fun ls hl => ?_)
  refine lv_iconst (v := 0) hx hb dX6_kettleMark_14 (by decide) ?_
  refine lv_istore_n (lv' := [(3, .int 0), (2, .int 0), (0, .ref p_this), (1, .int x1)]) hx hb dX6_kettleMark_15 rfl hl (by decide) rfl (fun ls hl => ?_)
  have X69 : ∀ (x2_69 : Int32) (H : Heap) (locs : List Loc), va_P (dC, dI) vwCl [(p_this, .inr (6, [.int d_dishes, .int d_speakers, .ref p_speaker, .int d_noises, .ref p_noise, .int d_askers, .ref p_asker, .ref p_st, .ref p_images, .ref p_isKept, .long (d_trace + 10000), .ref p_text, .int d_texted, .int d_cursor, .int d_start, .int d_token, .int d_number, .long d_word, .int d_isWrong, .int d_saidDishes, .ref p_saidMount, .int d_saidSpeakers, .ref p_saidSpeaker, .int d_saidNoises, .ref p_saidNoise, .int d_saidAskers, .ref p_saidAsker, .ref p_room, .int d_couldBe, .int d_couldHere])), (p_noise, .inl (cI, 9, .inl d_noise)), (p_st, .inl (cI, 104, .inl d_st))] H → va_D A [(p_this, .inr (6, [.int d_dishes, .int d_speakers, .ref p_speaker, .int d_noises, .ref p_noise, .int d_askers, .ref p_asker, .ref p_st, .ref p_images, .ref p_isKept, .long (d_trace + 10000), .ref p_text, .int d_texted, .int d_cursor, .int d_start, .int d_token, .int d_number, .long d_word, .int d_isWrong, .int d_saidDishes, .ref p_saidMount, .int d_saidSpeakers, .ref p_saidSpeaker, .int d_saidNoises, .ref p_saidNoise, .int d_saidAskers, .ref p_saidAsker, .ref p_room, .int d_couldBe, .int d_couldHere])), (p_noise, .inl (cI, 9, .inl d_noise)), (p_st, .inl (cI, 104, .inl d_st))] → va_S A s.heap H locs → ∀ ls : Array Slot, lv_has ls 4 [(0, .ref p_this), (1, .int x1), (2, .int x2_69)] → f_X6_kettleMark_X69 x1 d_noises (d_trace + 10000) d_noise x2_69 = some out → W p l e ({ frames := 2, cells := 0, slots := 0, locals := 44 } : Room) s m ([.ref p_this, .int x1] : List Value).toArray below meth c H locs 0 0 Q (F0 m 69 ls []) := by
    intro x2_69 H locs hP hD hS ls hl hrun
    rw [f_X6_kettleMark_X69] at hrun
    refine lv_aload_n hx hb dX6_kettleMark_69 rfl (lv_at hl 0 rfl) ?_
    refine lv_iload_n hx hb dX6_kettleMark_70 rfl (lv_at hl 1 rfl) ?_
    obtain ⟨q71, hq71, hrun⟩ := bind_out hrun
    have hPc : va_P (dC, dI) vwCl [(p_this, .inr (6, [.int d_dishes, .int d_speakers, .ref p_speaker, .int d_noises, .ref p_noise, .int d_askers, .ref p_asker, .ref p_st, .ref p_images, .ref p_isKept, .long (d_trace + 10000), .ref p_text, .int d_texted, .int d_cursor, .int d_start, .int d_token, .int d_number, .long d_word, .int d_isWrong, .int d_saidDishes, .ref p_saidMount, .int d_saidSpeakers, .ref p_saidSpeaker, .int d_saidNoises, .ref p_saidNoise, .int d_saidAskers, .ref p_saidAsker, .ref p_room, .int d_couldBe, .int d_couldHere])), (p_noise, .inl (cI, 9, .inl d_noise))] H := hP.sub [0, 1] rfl
    have hDc : va_D A [(p_this, .inr (6, [.int d_dishes, .int d_speakers, .ref p_speaker, .int d_noises, .ref p_noise, .int d_askers, .ref p_asker, .ref p_st, .ref p_images, .ref p_isKept, .long (d_trace + 10000), .ref p_text, .int d_texted, .int d_cursor, .int d_start, .int d_token, .int d_number, .long d_word, .int d_isWrong, .int d_saidDishes, .ref p_saidMount, .int d_saidSpeakers, .ref p_saidSpeaker, .int d_saidNoises, .ref p_saidNoise, .int d_saidAskers, .ref p_saidAsker, .ref p_room, .int d_couldBe, .int d_couldHere])), (p_noise, .inl (cI, 9, .inl d_noise))] := hD.sub [0, 1] (by decide) rfl
    have hFc := va_free (wc := [(p_this, .inr (6, [.int d_dishes, .int d_speakers, .ref p_speaker, .int d_noises, .ref p_noise, .int d_askers, .ref p_asker, .ref p_st, .ref p_images, .ref p_isKept, .long (d_trace + 10000), .ref p_text, .int d_texted, .int d_cursor, .int d_start, .int d_token, .int d_number, .long d_word, .int d_isWrong, .int d_saidDishes, .ref p_saidMount, .int d_saidSpeakers, .ref p_saidSpeaker, .int d_saidNoises, .ref p_saidNoise, .int d_saidAskers, .ref p_saidAsker, .ref p_room, .int d_couldBe, .int d_couldHere])), (p_noise, .inl (cI, 9, .inl d_noise))]) hD hS hA [0, 1] rfl
    refine va_calli (va_runV (As := [.int x1]) (rest := []) ⟨hx, hb, hml, hown, hts⟩ (c_X6_humMark l dC dI cI cZ H.size p_asker p_images p_isKept p_noise p_room p_saidAsker p_saidMount p_saidNoise p_saidSpeaker p_speaker p_st p_text p_this d_dishes d_speakers d_noises d_askers (d_trace + 10000) d_texted d_cursor d_start d_token d_number d_word d_isWrong d_saidDishes d_saidSpeakers d_saidNoises d_saidAskers d_couldBe d_couldHere d_noise x1 q71 hq71) (cwV 1 hts gX6_kettleMark_X6_humMark rfl rfl rfl (by decide +kernel) ⟨Nat.le_of_ble_eq_true rfl, Nat.le_of_ble_eq_true rfl⟩) ⟨fun a U g mk q => ⟨q.1, PC.mv q.2⟩, va_recv hK hP (ci := 6) (q0 := 0) rfl rfl, fun U hU hW => ⟨rfl, PC.of hU hW hPc hK hDc hN⟩⟩ rfl rfl hl.1 rfl (lv_room (Nat.le_of_ble_eq_true rfl)) dX6_kettleMark_71 ⟨Nat.zero_le _, Nat.zero_le _⟩) hS (fun q _ h => hFc q h) hFc (fun r_71 u t H1 locs ht hvm hw hB hz1 hk1 hS => ?_)
    obtain ⟨hP1, hD1⟩ := hB
    try dsimp only at hw
    rw [hw]
    rw [ht] at hP1
    obtain ⟨hP, hD⟩ := va_join (wr := [(p_st, .inl (cI, 104, .inl d_st))]) (w1 := [(p_this, .inr (6, [.int d_dishes, .int d_speakers, .ref p_speaker, .int d_noises, .ref p_noise, .int d_askers, .ref p_asker, .ref p_st, .ref p_images, .ref p_isKept, .long q71.2, .ref p_text, .int d_texted, .int d_cursor, .int d_start, .int d_token, .int d_number, .long d_word, .int d_isWrong, .int d_saidDishes, .ref p_saidMount, .int d_saidSpeakers, .ref p_saidSpeaker, .int d_saidNoises, .ref p_saidNoise, .int d_saidAskers, .ref p_saidAsker, .ref p_room, .int d_couldBe, .int d_couldHere])), (p_noise, .inl (cI, 9, .inl d_noise))]) hP hD [0, 1] [2] rfl rfl (by decide) (by decide) hk1 hFc hP1 hD1
    have hP : va_P (dC, dI) vwCl [(p_this, .inr (6, [.int d_dishes, .int d_speakers, .ref p_speaker, .int d_noises, .ref p_noise, .int d_askers, .ref p_asker, .ref p_st, .ref p_images, .ref p_isKept, .long q71.2, .ref p_text, .int d_texted, .int d_cursor, .int d_start, .int d_token, .int d_number, .long d_word, .int d_isWrong, .int d_saidDishes, .ref p_saidMount, .int d_saidSpeakers, .ref p_saidSpeaker, .int d_saidNoises, .ref p_saidNoise, .int d_saidAskers, .ref p_saidAsker, .ref p_room, .int d_couldBe, .int d_couldHere])), (p_noise, .inl (cI, 9, .inl d_noise)), (p_st, .inl (cI, 104, .inl d_st))] H1 := hP.sub [1, 2, 0] rfl
    have hD : va_D A [(p_this, .inr (6, [.int d_dishes, .int d_speakers, .ref p_speaker, .int d_noises, .ref p_noise, .int d_askers, .ref p_asker, .ref p_st, .ref p_images, .ref p_isKept, .long q71.2, .ref p_text, .int d_texted, .int d_cursor, .int d_start, .int d_token, .int d_number, .long d_word, .int d_isWrong, .int d_saidDishes, .ref p_saidMount, .int d_saidSpeakers, .ref p_saidSpeaker, .int d_saidNoises, .ref p_saidNoise, .int d_saidAskers, .ref p_saidAsker, .ref p_room, .int d_couldBe, .int d_couldHere])), (p_noise, .inl (cI, 9, .inl d_noise)), (p_st, .inl (cI, 104, .inl d_st))] := hD.sub [1, 2, 0] (by decide) rfl
    clear hPc hDc hFc hk1 hz1 hP1 hD1 ht hvm
    generalize H1 = H at hP hS ⊢
    refine lv_iload_n hx hb dX6_kettleMark_74 rfl (lv_at hl 2 rfl) ?_
    refine lv_iadd hx hb dX6_kettleMark_75 ?_
    have hrun := Option.some.inj hrun
    subst hrun
    rw [hQ]
    exact W.iret (v := q71.1 + x2_69) hx hb hr (fun t ht hW => ⟨⟨q71.1 + x2_69, (), rfl, rfl, by rw [ht]; exact hP, hD⟩, hS.F ht⟩) hS.2.2 dX6_kettleMark_76
  have L16 : ∀ (n9_16 : Nat) (x2_16 : Int32) (x3_16 : Int32) (H : Heap) (locs : List Loc), va_P (dC, dI) vwCl [(p_this, .inr (6, [.int d_dishes, .int d_speakers, .ref p_speaker, .int d_noises, .ref p_noise, .int d_askers, .ref p_asker, .ref p_st, .ref p_images, .ref p_isKept, .long (d_trace + 10000), .ref p_text, .int d_texted, .int d_cursor, .int d_start, .int d_token, .int d_number, .long d_word, .int d_isWrong, .int d_saidDishes, .ref p_saidMount, .int d_saidSpeakers, .ref p_saidSpeaker, .int d_saidNoises, .ref p_saidNoise, .int d_saidAskers, .ref p_saidAsker, .ref p_room, .int d_couldBe, .int d_couldHere])), (p_noise, .inl (cI, 9, .inl d_noise)), (p_st, .inl (cI, 104, .inl d_st))] H → va_D A [(p_this, .inr (6, [.int d_dishes, .int d_speakers, .ref p_speaker, .int d_noises, .ref p_noise, .int d_askers, .ref p_asker, .ref p_st, .ref p_images, .ref p_isKept, .long (d_trace + 10000), .ref p_text, .int d_texted, .int d_cursor, .int d_start, .int d_token, .int d_number, .long d_word, .int d_isWrong, .int d_saidDishes, .ref p_saidMount, .int d_saidSpeakers, .ref p_saidSpeaker, .int d_saidNoises, .ref p_saidNoise, .int d_saidAskers, .ref p_saidAsker, .ref p_room, .int d_couldBe, .int d_couldHere])), (p_noise, .inl (cI, 9, .inl d_noise)), (p_st, .inl (cI, 104, .inl d_st))] → va_S A s.heap H locs → ∀ ls : Array Slot, lv_has ls 4 [(0, .ref p_this), (1, .int x1), (2, .int x2_16), (3, .int x3_16)] → f_X6_kettleMark_L16 (f_X6_kettleMark_X69 x1 d_noises (d_trace + 10000) d_noise) x1 d_noises (d_trace + 10000) d_noise d_st n9_16 x2_16 x3_16 = some out → W p l e ({ frames := 2, cells := 0, slots := 0, locals := 44 } : Room) s m ([.ref p_this, .int x1] : List Value).toArray below meth c H locs 0 0 Q (F0 m 16 ls []) := by
    intro n9_16
    induction n9_16 with
    | zero =>
      intro x2_16 x3_16 H locs hP hD hS ls hl hrun
      rw [f_X6_kettleMark_L16] at hrun
      cases hrun
    | succ n9_16 ih16 =>
      intro x2_16 x3_16 H locs hP hD hS ls hl hrun
      rw [f_X6_kettleMark_L16] at hrun
      refine lv_iload_n hx hb dX6_kettleMark_16 rfl (lv_at hl 3 rfl) ?_
      refine lv_aload_n hx hb dX6_kettleMark_17 rfl (lv_at hl 0 rfl) ?_
      refine va_get (D := (dC, dI)) (ci := 6) (v := .ref p_st) (C := RX6) (T := TX6) (N := 30) hx hb hts iwX6 hown hK hP 0 rfl rfl 7 (by decide) (hts (.fieldLink RX6 19 "SkyListenersModel" "st" "[I") (by decide +kernel)) (fun _ h9 => h9) rfl dX6_kettleMark_18 ?_
      refine lv_iconst (v := 1) hx hb dX6_kettleMark_21 (by decide) ?_
      refine va_iald hx hb hK hP 2 0 rfl rfl (vp_lit (by decide) (by decide)) dX6_kettleMark_22 ?_
      refine lv_icmp_ge (tgt := 69) hx hb dX6_kettleMark_23 (by decide) (fun c_23 => ?_) (fun c_23 => ?_)
      · rw [if_pos c_23] at hrun
        exact X69 x2_16 H locs hP hD hS ls (lv_sub hl [0, 1, 2] rfl) hrun
      · rw [if_neg c_23] at hrun
        refine lv_iload_n hx hb dX6_kettleMark_26 rfl (lv_at hl 2 rfl) ?_
        refine lv_aload_n hx hb dX6_kettleMark_27 rfl (lv_at hl 0 rfl) ?_
        refine va_get (D := (dC, dI)) (ci := 6) (v := .ref p_st) (C := RX6) (T := TX6) (N := 30) hx hb hts iwX6 hown hK hP 0 rfl rfl 7 (by decide) (hts (.fieldLink RX6 19 "SkyListenersModel" "st" "[I") (by decide +kernel)) (fun _ h9 => h9) rfl dX6_kettleMark_28 ?_
        refine lv_bipush (v := 44) hx hb dX6_kettleMark_31 (by decide) ?_
        refine lv_iconst (v := 4) hx hb dX6_kettleMark_33 (by decide) ?_
        refine lv_iload_n hx hb dX6_kettleMark_34 rfl (lv_at hl 3 rfl) ?_
        refine lv_imul hx hb dX6_kettleMark_35 ?_
        refine lv_iadd hx hb dX6_kettleMark_36 ?_
        refine lv_iconst (v := 2) hx hb dX6_kettleMark_37 (by decide) ?_
        refine lv_iadd hx hb dX6_kettleMark_38 ?_
        rcases Classical.em (((44 + (4 * x3_16)) + 2) < 0 ∨ 104 ≤ ((44 + (4 * x3_16)) + 2).toNatClampNeg) with g_39 | g_39
        · rw [if_pos g_39] at hrun; cases hrun
        rw [if_neg g_39] at hrun
        refine va_iald hx hb hK hP 2 0 rfl rfl g_39 dX6_kettleMark_39 ?_
        refine lv_iload_n hx hb dX6_kettleMark_40 rfl (lv_at hl 1 rfl) ?_
        have J61 : ∀ (t1_61 : Int32) (H : Heap) (locs : List Loc), va_P (dC, dI) vwCl [(p_this, .inr (6, [.int d_dishes, .int d_speakers, .ref p_speaker, .int d_noises, .ref p_noise, .int d_askers, .ref p_asker, .ref p_st, .ref p_images, .ref p_isKept, .long (d_trace + 10000), .ref p_text, .int d_texted, .int d_cursor, .int d_start, .int d_token, .int d_number, .long d_word, .int d_isWrong, .int d_saidDishes, .ref p_saidMount, .int d_saidSpeakers, .ref p_saidSpeaker, .int d_saidNoises, .ref p_saidNoise, .int d_saidAskers, .ref p_saidAsker, .ref p_room, .int d_couldBe, .int d_couldHere])), (p_noise, .inl (cI, 9, .inl d_noise)), (p_st, .inl (cI, 104, .inl d_st))] H → va_D A [(p_this, .inr (6, [.int d_dishes, .int d_speakers, .ref p_speaker, .int d_noises, .ref p_noise, .int d_askers, .ref p_asker, .ref p_st, .ref p_images, .ref p_isKept, .long (d_trace + 10000), .ref p_text, .int d_texted, .int d_cursor, .int d_start, .int d_token, .int d_number, .long d_word, .int d_isWrong, .int d_saidDishes, .ref p_saidMount, .int d_saidSpeakers, .ref p_saidSpeaker, .int d_saidNoises, .ref p_saidNoise, .int d_saidAskers, .ref p_saidAsker, .ref p_room, .int d_couldBe, .int d_couldHere])), (p_noise, .inl (cI, 9, .inl d_noise)), (p_st, .inl (cI, 104, .inl d_st))] → va_S A s.heap H locs → ∀ ls : Array Slot, lv_has ls 4 [(0, .ref p_this), (1, .int x1), (3, .int x3_16)] → f_X6_kettleMark_J61 (f_X6_kettleMark_L16 (f_X6_kettleMark_X69 x1 d_noises (d_trace + 10000) d_noise) x1 d_noises (d_trace + 10000) d_noise d_st n9_16) x1 x3_16 x2_16 d_noises (d_trace + 10000) d_noise d_st t1_61 = some out → W p l e ({ frames := 2, cells := 0, slots := 0, locals := 44 } : Room) s m ([.ref p_this, .int x1] : List Value).toArray below meth c H locs 0 0 Q (F0 m 61 ls [.int t1_61, .int x2_16]) := by
          intro t1_61 H locs hP hD hS ls hl hrun
          rw [f_X6_kettleMark_J61] at hrun
          refine lv_iadd hx hb dX6_kettleMark_61 ?_
          refine lv_istore_n (lv' := [(2, .int (x2_16 + t1_61)), (0, .ref p_this), (1, .int x1), (3, .int x3_16)]) hx hb dX6_kettleMark_62 rfl hl (by decide) rfl (fun ls hl => ?_)
          refine lv_iinc (v := x3_16 + 1) (lv' := [(3, .int (x3_16 + 1)), (2, .int (x2_16 + t1_61)), (0, .ref p_this), (1, .int x1)]) hx hb dX6_kettleMark_63 hl (k := 3) rfl rfl (by decide) rfl (fun ls hl => ?_)
          refine lv_goto (tgt := 16) hx hb dX6_kettleMark_66 (by decide) ?_
          exact ih16 (x2_16 + t1_61) (x3_16 + 1) H locs hP hD hS ls (lv_sub hl [2, 3, 1, 0] rfl) hrun
        refine lv_icmp_ne (tgt := 60) hx hb dX6_kettleMark_41 (by decide) (fun c_41 => ?_) (fun c_41 => ?_)
        · rw [if_neg c_41] at hrun
          refine lv_iconst (v := 0) hx hb dX6_kettleMark_60 (by decide) ?_
          exact J61 0 H locs hP hD hS ls (lv_sub hl [0, 1, 3] rfl) hrun
        · rw [if_pos c_41] at hrun
          refine lv_aload_n hx hb dX6_kettleMark_44 rfl (lv_at hl 0 rfl) ?_
          refine va_get (D := (dC, dI)) (ci := 6) (v := .ref p_st) (C := RX6) (T := TX6) (N := 30) hx hb hts iwX6 hown hK hP 0 rfl rfl 7 (by decide) (hts (.fieldLink RX6 19 "SkyListenersModel" "st" "[I") (by decide +kernel)) (fun _ h9 => h9) rfl dX6_kettleMark_45 ?_
          refine lv_bipush (v := 44) hx hb dX6_kettleMark_48 (by decide) ?_
          refine lv_iconst (v := 4) hx hb dX6_kettleMark_50 (by decide) ?_
          refine lv_iload_n hx hb dX6_kettleMark_51 rfl (lv_at hl 3 rfl) ?_
          refine lv_imul hx hb dX6_kettleMark_52 ?_
          refine lv_iadd hx hb dX6_kettleMark_53 ?_
          refine lv_iconst (v := 3) hx hb dX6_kettleMark_54 (by decide) ?_
          refine lv_iadd hx hb dX6_kettleMark_55 ?_
          rcases Classical.em (((44 + (4 * x3_16)) + 3) < 0 ∨ 104 ≤ ((44 + (4 * x3_16)) + 3).toNatClampNeg) with g_56 | g_56
          · rw [if_pos g_56] at hrun; cases hrun
          rw [if_neg g_56] at hrun
          refine va_iald hx hb hK hP 2 0 rfl rfl g_56 dX6_kettleMark_56 ?_
          refine lv_goto (tgt := 61) hx hb dX6_kettleMark_57 (by decide) ?_
          exact J61 (d_st ((44 + (4 * x3_16)) + 3).toNatClampNeg) H locs hP hD hS ls (lv_sub hl [0, 1, 3] rfl) hrun
  exact L16 FU 0 0 H locs hP hD hS ls (lv_sub hl [2, 3, 1, 0] rfl) hrun
-- SkyListenersModel.mark
def f_X6_mark (d_dishes : Int32) (d_speakers : Int32) (d_noises : Int32) (d_trace : Int64) (d_noise : Nat → Int32) (d_speaker : Nat → Int32) (d_st : Nat → Int32) (x1 : Int32) (x2 : Int32) : Option (Int32 × Int64) := (if (f_X6_in x1 0 5) = 0 then (some ((-1000000), d_trace)) else (if (f_X6_isNote x2) = 0 then (some ((-1000000), d_trace)) else (if x1 = 0 then (some ((f_X6_noteMark d_trace x2).1, (f_X6_noteMark d_trace x2).2)) else (if x1 = 1 then ((f_X6_voiceMark d_speakers d_trace d_speaker x2).bind fun q64 => (some (q64.1, q64.2))) else (if x1 = 2 then ((f_X6_humMark d_noises d_trace d_noise x2).bind fun q70 => (some (q70.1, q70.2))) else (if x1 = 3 then ((f_X6_voiceMark d_speakers (d_trace + 1000) d_speaker x2).bind fun q89 => (some (2 * q89.1, q89.2))) else (if x1 = 4 then ((f_X6_kettleMark d_noises d_trace d_noise d_st x2).bind fun q96 => (some (q96.1, q96.2))) else (some (((f_X6_noteMark (d_trace + 100000) x2).1) + d_dishes, (f_X6_noteMark (d_trace + 100000) x2).2)))))))))
set_option maxHeartbeats 4000000 in
set_option maxRecDepth 100000 in
theorem c_X6_mark (l : Launch) (dC : Nat → ClassId) (dI : Nat → Nat → Nat) (cI cZ : ClassId) (sz : Nat) (p_asker p_images p_isKept p_noise p_room p_saidAsker p_saidMount p_saidNoise p_saidSpeaker p_speaker p_st p_text p_this : Nat) (d_dishes : Int32) (d_speakers : Int32) (d_noises : Int32) (d_askers : Int32) (d_trace : Int64) (d_texted : Int32) (d_cursor : Int32) (d_start : Int32) (d_token : Int32) (d_number : Int32) (d_word : Int64) (d_isWrong : Int32) (d_saidDishes : Int32) (d_saidSpeakers : Int32) (d_saidNoises : Int32) (d_saidAskers : Int32) (d_couldBe : Int32) (d_couldHere : Int32) (d_noise : Nat → Int32) (d_speaker : Nat → Int32) (d_st : Nat → Int32) (x1 : Int32) (x2 : Int32) (out : Int32 × Int64) (hrun : f_X6_mark d_dishes d_speakers d_noises d_trace d_noise d_speaker d_st x1 x2 = some out) : Met l yX6_mark wsX6_mark ({ frames := 3, cells := 0, slots := 0, locals := 67 } : Room) (va_Pc [.ref p_this, .int x1, .int x2] (PC dC dI cI cZ sz ([(p_this, .inr (6, [.int d_dishes, .int d_speakers, .ref p_speaker, .int d_noises, .ref p_noise, .int d_askers, .ref p_asker, .ref p_st, .ref p_images, .ref p_isKept, .long d_trace, .ref p_text, .int d_texted, .int d_cursor, .int d_start, .int d_token, .int d_number, .long d_word, .int d_isWrong, .int d_saidDishes, .ref p_saidMount, .int d_saidSpeakers, .ref p_saidSpeaker, .int d_saidNoises, .ref p_saidNoise, .int d_saidAskers, .ref p_saidAsker, .ref p_room, .int d_couldBe, .int d_couldHere])), (p_noise, .inl (cI, 9, .inl d_noise)), (p_speaker, .inl (cI, 20, .inl d_speaker)), (p_st, .inl (cI, 104, .inl d_st))] : va_W))) (va_Qi (fun r (_ : Unit) => r = out.1) (fun _ t => va_P (dC, dI) vwCl [(p_this, .inr (6, [.int d_dishes, .int d_speakers, .ref p_speaker, .int d_noises, .ref p_noise, .int d_askers, .ref p_asker, .ref p_st, .ref p_images, .ref p_isKept, .long out.2, .ref p_text, .int d_texted, .int d_cursor, .int d_start, .int d_token, .int d_number, .long d_word, .int d_isWrong, .int d_saidDishes, .ref p_saidMount, .int d_saidSpeakers, .ref p_saidSpeaker, .int d_saidNoises, .ref p_saidNoise, .int d_saidAskers, .ref p_saidAsker, .ref p_room, .int d_couldBe, .int d_couldHere])), (p_noise, .inl (cI, 9, .inl d_noise)), (p_speaker, .inl (cI, 20, .inl d_speaker)), (p_st, .inl (cI, 104, .inl d_st))] t.heap ∧ va_D (va_A ([(p_this, .inr (6, [.int d_dishes, .int d_speakers, .ref p_speaker, .int d_noises, .ref p_noise, .int d_askers, .ref p_asker, .ref p_st, .ref p_images, .ref p_isKept, .long d_trace, .ref p_text, .int d_texted, .int d_cursor, .int d_start, .int d_token, .int d_number, .long d_word, .int d_isWrong, .int d_saidDishes, .ref p_saidMount, .int d_saidSpeakers, .ref p_saidSpeaker, .int d_saidNoises, .ref p_saidNoise, .int d_saidAskers, .ref p_saidAsker, .ref p_room, .int d_couldBe, .int d_couldHere])), (p_noise, .inl (cI, 9, .inl d_noise)), (p_speaker, .inl (cI, 20, .inl d_speaker)), (p_st, .inl (cI, 104, .inl d_st))] : va_W) sz) [(p_this, .inr (6, [.int d_dishes, .int d_speakers, .ref p_speaker, .int d_noises, .ref p_noise, .int d_askers, .ref p_asker, .ref p_st, .ref p_images, .ref p_isKept, .long out.2, .ref p_text, .int d_texted, .int d_cursor, .int d_start, .int d_token, .int d_number, .long d_word, .int d_isWrong, .int d_saidDishes, .ref p_saidMount, .int d_saidSpeakers, .ref p_saidSpeaker, .int d_saidNoises, .ref p_saidNoise, .int d_saidAskers, .ref p_saidAsker, .ref p_room, .int d_couldBe, .int d_couldHere])), (p_noise, .inl (cI, 9, .inl d_noise)), (p_speaker, .inl (cI, 20, .inl d_speaker)), (p_st, .inl (cI, 104, .inl d_st))]) (va_A ([(p_this, .inr (6, [.int d_dishes, .int d_speakers, .ref p_speaker, .int d_noises, .ref p_noise, .int d_askers, .ref p_asker, .ref p_st, .ref p_images, .ref p_isKept, .long d_trace, .ref p_text, .int d_texted, .int d_cursor, .int d_start, .int d_token, .int d_number, .long d_word, .int d_isWrong, .int d_saidDishes, .ref p_saidMount, .int d_saidSpeakers, .ref p_saidSpeaker, .int d_saidNoises, .ref p_saidNoise, .int d_saidAskers, .ref p_saidAsker, .ref p_room, .int d_couldBe, .int d_couldHere])), (p_noise, .inl (cI, 9, .inl d_noise)), (p_speaker, .inl (cI, 20, .inl d_speaker)), (p_st, .inl (cI, 104, .inl d_st))] : va_W) sz)) 0 0 (va_A ([(p_this, .inr (6, [.int d_dishes, .int d_speakers, .ref p_speaker, .int d_noises, .ref p_noise, .int d_askers, .ref p_asker, .ref p_st, .ref p_images, .ref p_isKept, .long d_trace, .ref p_text, .int d_texted, .int d_cursor, .int d_start, .int d_token, .int d_number, .long d_word, .int d_isWrong, .int d_saidDishes, .ref p_saidMount, .int d_saidSpeakers, .ref p_saidSpeaker, .int d_saidNoises, .ref p_saidNoise, .int d_saidAskers, .ref p_saidAsker, .ref p_room, .int d_couldBe, .int d_couldHere])), (p_noise, .inl (cI, 9, .inl d_noise)), (p_speaker, .inl (cI, 20, .inl d_speaker)), (p_st, .inl (cI, 104, .inl d_st))] : va_W) sz) := by
  refine Met.ofW (cc := cX6_mark) (maxL := 3) (ret := (some .int)) (by decide) rfl ?_
  intro p e s m args below meth c s₁ B hml hv
  obtain ⟨rfl, hsz, hP, hK, hD0, hN⟩ := hv
  have hx := B.exec
  have hb := B.bytes
  have hr := B.returns
  have hts := atoms_spec (ws := wsX6_mark) B.pre
  have hown : s.vm.findClass RX6 = some m.cls := findClass_of_methodNamed B.named
  have hlocks := B.notSynchronized
  subst hsz
  have hD := hD0.self (sz := s.heap.size)
  generalize hAe : va_A ([(p_this, .inr (6, [.int d_dishes, .int d_speakers, .ref p_speaker, .int d_noises, .ref p_noise, .int d_askers, .ref p_asker, .ref p_st, .ref p_images, .ref p_isKept, .long d_trace, .ref p_text, .int d_texted, .int d_cursor, .int d_start, .int d_token, .int d_number, .long d_word, .int d_isWrong, .int d_saidDishes, .ref p_saidMount, .int d_saidSpeakers, .ref p_saidSpeaker, .int d_saidNoises, .ref p_saidNoise, .int d_saidAskers, .ref p_saidAsker, .ref p_room, .int d_couldBe, .int d_couldHere])), (p_noise, .inl (cI, 9, .inl d_noise)), (p_speaker, .inl (cI, 20, .inl d_speaker)), (p_st, .inl (cI, 104, .inl d_st))] : va_W) s.heap.size = A at hD ⊢
  have hA : ∀ q : Nat, s.heap.size ≤ q → A q := fun q h => by rw [← hAe]; exact Or.inr h
  have hS : va_S A s.heap s.heap [] := va_S.rf
  refine W_abs (fun Q hQ => ?_)
  have hl := lv_entry ([.ref p_this, .int x1, .int x2]) (n := 3) (Nat.le_of_ble_eq_true rfl)
  rw [lg_entry_eq]
  generalize (lg_sl ([.ref p_this, .int x1, .int x2]) ++ List.replicate (3 - (lg_sl ([.ref p_this, .int x1, .int x2])).length) Slot.unset).toArray = ls at hl ⊢
  have hl : lv_has ls 3 [(0, .ref p_this), (1, .int x1), (2, .int x2)] := hl
  rw [f_X6_mark] at hrun
  refine W_start (ws := [(p_this, .inr (6, [.int d_dishes, .int d_speakers, .ref p_speaker, .int d_noises, .ref p_noise, .int d_askers, .ref p_asker, .ref p_st, .ref p_images, .ref p_isKept, .long d_trace, .ref p_text, .int d_texted, .int d_cursor, .int d_start, .int d_token, .int d_number, .long d_word, .int d_isWrong, .int d_saidDishes, .ref p_saidMount, .int d_saidSpeakers, .ref p_saidSpeaker, .int d_saidNoises, .ref p_saidNoise, .int d_saidAskers, .ref p_saidAsker, .ref p_room, .int d_couldBe, .int d_couldHere])), (p_noise, .inl (cI, 9, .inl d_noise)), (p_speaker, .inl (cI, 20, .inl d_speaker)), (p_st, .inl (cI, 104, .inl d_st))]) hP hS (fun H locs hP hS => ?_)
  have iwX6 : ∀ w ∈ wsX60, w ∈ wsX6_mark := by decide +kernel
  refine lv_iload_n hx hb dX6_mark_0 rfl (lv_at hl 1 rfl) ?_
  refine lv_iconst (v := 0) hx hb dX6_mark_1 (by decide) ?_
  refine lv_iconst (v := 5) hx hb dX6_mark_2 (by decide) ?_
  have hPc : va_P (dC, dI) vwCl [] H := hP.sub [] rfl
  have hDc : va_D A [] := hD.sub [] (by decide) rfl
  have hFc := va_free (wc := []) hD hS hA [] rfl
  refine va_calli (va_runS (As := [.int x1, .int 0, .int 5]) (rest := []) ⟨hx, hb, hml, hown, hts⟩ (c_X6_in l dC dI cI cZ H.size x1 0 5 (f_X6_in x1 0 5) rfl) (va_cwS 3 hts gX6_mark_X6_in rfl rfl rfl (by decide +kernel) ⟨Nat.le_of_ble_eq_true rfl, Nat.le_of_ble_eq_true rfl⟩) ⟨fun a U g mk q => ⟨q.1, PC.mv q.2⟩, fun U hU hW => ⟨rfl, PC.of hU hW hPc hK hDc hN⟩⟩ rfl rfl hl.1 rfl (lv_room (Nat.le_of_ble_eq_true rfl)) dX6_mark_3 ⟨Nat.zero_le _, Nat.zero_le _⟩) hS (fun q _ h => hFc q h) hFc (fun r_3 u t H1 locs ht hvm hw hB hz1 hk1 hS => ?_)
  obtain ⟨hP1, hD1⟩ := hB
  try dsimp only at hw
  rw [hw]
  rw [ht] at hP1
  have hP : va_P (dC, dI) vwCl [(p_this, .inr (6, [.int d_dishes, .int d_speakers, .ref p_speaker, .int d_noises, .ref p_noise, .int d_askers, .ref p_asker, .ref p_st, .ref p_images, .ref p_isKept, .long d_trace, .ref p_text, .int d_texted, .int d_cursor, .int d_start, .int d_token, .int d_number, .long d_word, .int d_isWrong, .int d_saidDishes, .ref p_saidMount, .int d_saidSpeakers, .ref p_saidSpeaker, .int d_saidNoises, .ref p_saidNoise, .int d_saidAskers, .ref p_saidAsker, .ref p_room, .int d_couldBe, .int d_couldHere])), (p_noise, .inl (cI, 9, .inl d_noise)), (p_speaker, .inl (cI, 20, .inl d_speaker)), (p_st, .inl (cI, 104, .inl d_st))] H1 := join_ro hP hD [] rfl hk1 hP1
  clear hPc hDc hFc hk1 hz1 hP1 hD1 ht hvm
  generalize H1 = H at hP hS ⊢
  refine lv_if_eq (tgt := 16) hx hb dX6_mark_6 (by decide) (fun c_6 => ?_) (fun c_6 => ?_)
  · rw [if_pos c_6] at hrun
    refine lv_ldc (v := (-1000000)) hx hb hown (hts (.constant RX6 222 (-1000000)) (by decide +kernel)) dX6_mark_16 ?_
    have hrun := Option.some.inj hrun
    subst hrun
    rw [hQ]
    exact W.iret (v := (-1000000)) hx hb hr (fun t ht hW => ⟨⟨(-1000000), (), rfl, rfl, by rw [ht]; exact hP, hD⟩, hS.F ht⟩) hS.2.2 dX6_mark_18
  · rw [if_neg c_6] at hrun
    refine lv_iload_n hx hb dX6_mark_9 rfl (lv_at hl 2 rfl) ?_
    have hPc : va_P (dC, dI) vwCl [] H := hP.sub [] rfl
    have hDc : va_D A [] := hD.sub [] (by decide) rfl
    have hFc := va_free (wc := []) hD hS hA [] rfl
    refine va_calli (va_runS (As := [.int x2]) (rest := []) ⟨hx, hb, hml, hown, hts⟩ (c_X6_isNote l dC dI cI cZ H.size x2 (f_X6_isNote x2) rfl) (va_cwS 1 hts gX6_mark_X6_isNote rfl rfl rfl (by decide +kernel) ⟨Nat.le_of_ble_eq_true rfl, Nat.le_of_ble_eq_true rfl⟩) ⟨fun a U g mk q => ⟨q.1, PC.mv q.2⟩, fun U hU hW => ⟨rfl, PC.of hU hW hPc hK hDc hN⟩⟩ rfl rfl hl.1 rfl (lv_room (Nat.le_of_ble_eq_true rfl)) dX6_mark_10 ⟨Nat.zero_le _, Nat.zero_le _⟩) hS (fun q _ h => hFc q h) hFc (fun r_10 u t H1 locs ht hvm hw hB hz1 hk1 hS => ?_)
    obtain ⟨hP1, hD1⟩ := hB
    try dsimp only at hw
    rw [hw]
    rw [ht] at hP1
    have hP : va_P (dC, dI) vwCl [(p_this, .inr (6, [.int d_dishes, .int d_speakers, .ref p_speaker, .int d_noises, .ref p_noise, .int d_askers, .ref p_asker, .ref p_st, .ref p_images, .ref p_isKept, .long d_trace, .ref p_text, .int d_texted, .int d_cursor, .int d_start, .int d_token, .int d_number, .long d_word, .int d_isWrong, .int d_saidDishes, .ref p_saidMount, .int d_saidSpeakers, .ref p_saidSpeaker, .int d_saidNoises, .ref p_saidNoise, .int d_saidAskers, .ref p_saidAsker, .ref p_room, .int d_couldBe, .int d_couldHere])), (p_noise, .inl (cI, 9, .inl d_noise)), (p_speaker, .inl (cI, 20, .inl d_speaker)), (p_st, .inl (cI, 104, .inl d_st))] H1 := join_ro hP hD [] rfl hk1 hP1
    clear hPc hDc hFc hk1 hz1 hP1 hD1 ht hvm
    generalize H1 = H at hP hS ⊢
    refine lv_if_ne (tgt := 19) hx hb dX6_mark_13 (by decide) (fun c_13 => ?_) (fun c_13 => ?_)
    · rw [if_neg c_13] at hrun
      refine lv_iload_n hx hb dX6_mark_19 rfl (lv_at hl 1 rfl) ?_
      by_cases c_20_0 : x1 = 0
      · rw [if_pos c_20_0] at hrun
        refine lv_tableIn (tgt := 56) (off := 36) hx hb dX6_mark_20 (by rw [c_20_0]; decide) (by rw [c_20_0]; decide) (by rw [c_20_0]; decide) (by decide) ?_
        refine lv_aload_n hx hb dX6_mark_56 rfl (lv_at hl 0 rfl) ?_
        refine lv_iload_n hx hb dX6_mark_57 rfl (lv_at hl 2 rfl) ?_
        have hPc : va_P (dC, dI) vwCl [(p_this, .inr (6, [.int d_dishes, .int d_speakers, .ref p_speaker, .int d_noises, .ref p_noise, .int d_askers, .ref p_asker, .ref p_st, .ref p_images, .ref p_isKept, .long d_trace, .ref p_text, .int d_texted, .int d_cursor, .int d_start, .int d_token, .int d_number, .long d_word, .int d_isWrong, .int d_saidDishes, .ref p_saidMount, .int d_saidSpeakers, .ref p_saidSpeaker, .int d_saidNoises, .ref p_saidNoise, .int d_saidAskers, .ref p_saidAsker, .ref p_room, .int d_couldBe, .int d_couldHere]))] H := hP.sub [0] rfl
        have hDc : va_D A [(p_this, .inr (6, [.int d_dishes, .int d_speakers, .ref p_speaker, .int d_noises, .ref p_noise, .int d_askers, .ref p_asker, .ref p_st, .ref p_images, .ref p_isKept, .long d_trace, .ref p_text, .int d_texted, .int d_cursor, .int d_start, .int d_token, .int d_number, .long d_word, .int d_isWrong, .int d_saidDishes, .ref p_saidMount, .int d_saidSpeakers, .ref p_saidSpeaker, .int d_saidNoises, .ref p_saidNoise, .int d_saidAskers, .ref p_saidAsker, .ref p_room, .int d_couldBe, .int d_couldHere]))] := hD.sub [0] (by decide) rfl
        have hFc := va_free (wc := [(p_this, .inr (6, [.int d_dishes, .int d_speakers, .ref p_speaker, .int d_noises, .ref p_noise, .int d_askers, .ref p_asker, .ref p_st, .ref p_images, .ref p_isKept, .long d_trace, .ref p_text, .int d_texted, .int d_cursor, .int d_start, .int d_token, .int d_number, .long d_word, .int d_isWrong, .int d_saidDishes, .ref p_saidMount, .int d_saidSpeakers, .ref p_saidSpeaker, .int d_saidNoises, .ref p_saidNoise, .int d_saidAskers, .ref p_saidAsker, .ref p_room, .int d_couldBe, .int d_couldHere]))]) hD hS hA [0] rfl
        refine va_calli (va_runV (As := [.int x2]) (rest := []) ⟨hx, hb, hml, hown, hts⟩ (c_X6_noteMark l dC dI cI cZ H.size p_asker p_images p_isKept p_noise p_room p_saidAsker p_saidMount p_saidNoise p_saidSpeaker p_speaker p_st p_text p_this d_dishes d_speakers d_noises d_askers d_trace d_texted d_cursor d_start d_token d_number d_word d_isWrong d_saidDishes d_saidSpeakers d_saidNoises d_saidAskers d_couldBe d_couldHere x2 (f_X6_noteMark d_trace x2) rfl) (cwV 1 hts gX6_mark_X6_noteMark rfl rfl rfl (by decide +kernel) ⟨Nat.le_of_ble_eq_true rfl, Nat.le_of_ble_eq_true rfl⟩) ⟨fun a U g mk q => ⟨q.1, PC.mv q.2⟩, va_recv hK hP (ci := 6) (q0 := 0) rfl rfl, fun U hU hW => ⟨rfl, PC.of hU hW hPc hK hDc hN⟩⟩ rfl rfl hl.1 rfl (lv_room (Nat.le_of_ble_eq_true rfl)) dX6_mark_58 ⟨Nat.zero_le _, Nat.zero_le _⟩) hS (fun q _ h => hFc q h) hFc (fun r_58 u t H1 locs ht hvm hw hB hz1 hk1 hS => ?_)
        obtain ⟨hP1, hD1⟩ := hB
        try dsimp only at hw
        rw [hw]
        rw [ht] at hP1
        obtain ⟨hP, hD⟩ := va_join (wr := [(p_noise, .inl (cI, 9, .inl d_noise)), (p_speaker, .inl (cI, 20, .inl d_speaker)), (p_st, .inl (cI, 104, .inl d_st))]) (w1 := [(p_this, .inr (6, [.int d_dishes, .int d_speakers, .ref p_speaker, .int d_noises, .ref p_noise, .int d_askers, .ref p_asker, .ref p_st, .ref p_images, .ref p_isKept, .long ((f_X6_noteMark d_trace x2).2), .ref p_text, .int d_texted, .int d_cursor, .int d_start, .int d_token, .int d_number, .long d_word, .int d_isWrong, .int d_saidDishes, .ref p_saidMount, .int d_saidSpeakers, .ref p_saidSpeaker, .int d_saidNoises, .ref p_saidNoise, .int d_saidAskers, .ref p_saidAsker, .ref p_room, .int d_couldBe, .int d_couldHere]))]) hP hD [0] [1, 2, 3] rfl rfl (by decide) (by decide) hk1 hFc hP1 hD1
        have hP : va_P (dC, dI) vwCl [(p_this, .inr (6, [.int d_dishes, .int d_speakers, .ref p_speaker, .int d_noises, .ref p_noise, .int d_askers, .ref p_asker, .ref p_st, .ref p_images, .ref p_isKept, .long ((f_X6_noteMark d_trace x2).2), .ref p_text, .int d_texted, .int d_cursor, .int d_start, .int d_token, .int d_number, .long d_word, .int d_isWrong, .int d_saidDishes, .ref p_saidMount, .int d_saidSpeakers, .ref p_saidSpeaker, .int d_saidNoises, .ref p_saidNoise, .int d_saidAskers, .ref p_saidAsker, .ref p_room, .int d_couldBe, .int d_couldHere])), (p_noise, .inl (cI, 9, .inl d_noise)), (p_speaker, .inl (cI, 20, .inl d_speaker)), (p_st, .inl (cI, 104, .inl d_st))] H1 := hP.sub [3, 0, 1, 2] rfl
        have hD : va_D A [(p_this, .inr (6, [.int d_dishes, .int d_speakers, .ref p_speaker, .int d_noises, .ref p_noise, .int d_askers, .ref p_asker, .ref p_st, .ref p_images, .ref p_isKept, .long ((f_X6_noteMark d_trace x2).2), .ref p_text, .int d_texted, .int d_cursor, .int d_start, .int d_token, .int d_number, .long d_word, .int d_isWrong, .int d_saidDishes, .ref p_saidMount, .int d_saidSpeakers, .ref p_saidSpeaker, .int d_saidNoises, .ref p_saidNoise, .int d_saidAskers, .ref p_saidAsker, .ref p_room, .int d_couldBe, .int d_couldHere])), (p_noise, .inl (cI, 9, .inl d_noise)), (p_speaker, .inl (cI, 20, .inl d_speaker)), (p_st, .inl (cI, 104, .inl d_st))] := hD.sub [3, 0, 1, 2] (by decide) rfl
        clear hPc hDc hFc hk1 hz1 hP1 hD1 ht hvm
        generalize H1 = H at hP hS ⊢
        have hrun := Option.some.inj hrun
        subst hrun
        rw [hQ]
        exact W.iret (v := (f_X6_noteMark d_trace x2).1) hx hb hr (fun t ht hW => ⟨⟨(f_X6_noteMark d_trace x2).1, (), rfl, rfl, by rw [ht]; exact hP, hD⟩, hS.F ht⟩) hS.2.2 dX6_mark_61
      rw [if_neg c_20_0] at hrun
      by_cases c_20_1 : x1 = 1
      · rw [if_pos c_20_1] at hrun
        refine lv_tableIn (tgt := 62) (off := 42) hx hb dX6_mark_20 (by rw [c_20_1]; decide) (by rw [c_20_1]; decide) (by rw [c_20_1]; decide) (by decide) ?_
        refine lv_aload_n hx hb dX6_mark_62 rfl (lv_at hl 0 rfl) ?_
        refine lv_iload_n hx hb dX6_mark_63 rfl (lv_at hl 2 rfl) ?_
        obtain ⟨q64, hq64, hrun⟩ := bind_out hrun
        have hPc : va_P (dC, dI) vwCl [(p_this, .inr (6, [.int d_dishes, .int d_speakers, .ref p_speaker, .int d_noises, .ref p_noise, .int d_askers, .ref p_asker, .ref p_st, .ref p_images, .ref p_isKept, .long d_trace, .ref p_text, .int d_texted, .int d_cursor, .int d_start, .int d_token, .int d_number, .long d_word, .int d_isWrong, .int d_saidDishes, .ref p_saidMount, .int d_saidSpeakers, .ref p_saidSpeaker, .int d_saidNoises, .ref p_saidNoise, .int d_saidAskers, .ref p_saidAsker, .ref p_room, .int d_couldBe, .int d_couldHere])), (p_speaker, .inl (cI, 20, .inl d_speaker))] H := hP.sub [0, 2] rfl
        have hDc : va_D A [(p_this, .inr (6, [.int d_dishes, .int d_speakers, .ref p_speaker, .int d_noises, .ref p_noise, .int d_askers, .ref p_asker, .ref p_st, .ref p_images, .ref p_isKept, .long d_trace, .ref p_text, .int d_texted, .int d_cursor, .int d_start, .int d_token, .int d_number, .long d_word, .int d_isWrong, .int d_saidDishes, .ref p_saidMount, .int d_saidSpeakers, .ref p_saidSpeaker, .int d_saidNoises, .ref p_saidNoise, .int d_saidAskers, .ref p_saidAsker, .ref p_room, .int d_couldBe, .int d_couldHere])), (p_speaker, .inl (cI, 20, .inl d_speaker))] := hD.sub [0, 2] (by decide) rfl
        have hFc := va_free (wc := [(p_this, .inr (6, [.int d_dishes, .int d_speakers, .ref p_speaker, .int d_noises, .ref p_noise, .int d_askers, .ref p_asker, .ref p_st, .ref p_images, .ref p_isKept, .long d_trace, .ref p_text, .int d_texted, .int d_cursor, .int d_start, .int d_token, .int d_number, .long d_word, .int d_isWrong, .int d_saidDishes, .ref p_saidMount, .int d_saidSpeakers, .ref p_saidSpeaker, .int d_saidNoises, .ref p_saidNoise, .int d_saidAskers, .ref p_saidAsker, .ref p_room, .int d_couldBe, .int d_couldHere])), (p_speaker, .inl (cI, 20, .inl d_speaker))]) hD hS hA [0, 2] rfl
        refine va_calli (va_runV (As := [.int x2]) (rest := []) ⟨hx, hb, hml, hown, hts⟩ (c_X6_voiceMark l dC dI cI cZ H.size p_asker p_images p_isKept p_noise p_room p_saidAsker p_saidMount p_saidNoise p_saidSpeaker p_speaker p_st p_text p_this d_dishes d_speakers d_noises d_askers d_trace d_texted d_cursor d_start d_token d_number d_word d_isWrong d_saidDishes d_saidSpeakers d_saidNoises d_saidAskers d_couldBe d_couldHere d_speaker x2 q64 hq64) (cwV 1 hts gX6_mark_X6_voiceMark rfl rfl rfl (by decide +kernel) ⟨Nat.le_of_ble_eq_true rfl, Nat.le_of_ble_eq_true rfl⟩) ⟨fun a U g mk q => ⟨q.1, PC.mv q.2⟩, va_recv hK hP (ci := 6) (q0 := 0) rfl rfl, fun U hU hW => ⟨rfl, PC.of hU hW hPc hK hDc hN⟩⟩ rfl rfl hl.1 rfl (lv_room (Nat.le_of_ble_eq_true rfl)) dX6_mark_64 ⟨Nat.zero_le _, Nat.zero_le _⟩) hS (fun q _ h => hFc q h) hFc (fun r_64 u t H1 locs ht hvm hw hB hz1 hk1 hS => ?_)
        obtain ⟨hP1, hD1⟩ := hB
        try dsimp only at hw
        rw [hw]
        rw [ht] at hP1
        obtain ⟨hP, hD⟩ := va_join (wr := [(p_noise, .inl (cI, 9, .inl d_noise)), (p_st, .inl (cI, 104, .inl d_st))]) (w1 := [(p_this, .inr (6, [.int d_dishes, .int d_speakers, .ref p_speaker, .int d_noises, .ref p_noise, .int d_askers, .ref p_asker, .ref p_st, .ref p_images, .ref p_isKept, .long q64.2, .ref p_text, .int d_texted, .int d_cursor, .int d_start, .int d_token, .int d_number, .long d_word, .int d_isWrong, .int d_saidDishes, .ref p_saidMount, .int d_saidSpeakers, .ref p_saidSpeaker, .int d_saidNoises, .ref p_saidNoise, .int d_saidAskers, .ref p_saidAsker, .ref p_room, .int d_couldBe, .int d_couldHere])), (p_speaker, .inl (cI, 20, .inl d_speaker))]) hP hD [0, 2] [1, 3] rfl rfl (by decide) (by decide) hk1 hFc hP1 hD1
        have hP : va_P (dC, dI) vwCl [(p_this, .inr (6, [.int d_dishes, .int d_speakers, .ref p_speaker, .int d_noises, .ref p_noise, .int d_askers, .ref p_asker, .ref p_st, .ref p_images, .ref p_isKept, .long q64.2, .ref p_text, .int d_texted, .int d_cursor, .int d_start, .int d_token, .int d_number, .long d_word, .int d_isWrong, .int d_saidDishes, .ref p_saidMount, .int d_saidSpeakers, .ref p_saidSpeaker, .int d_saidNoises, .ref p_saidNoise, .int d_saidAskers, .ref p_saidAsker, .ref p_room, .int d_couldBe, .int d_couldHere])), (p_noise, .inl (cI, 9, .inl d_noise)), (p_speaker, .inl (cI, 20, .inl d_speaker)), (p_st, .inl (cI, 104, .inl d_st))] H1 := hP.sub [2, 0, 3, 1] rfl
        have hD : va_D A [(p_this, .inr (6, [.int d_dishes, .int d_speakers, .ref p_speaker, .int d_noises, .ref p_noise, .int d_askers, .ref p_asker, .ref p_st, .ref p_images, .ref p_isKept, .long q64.2, .ref p_text, .int d_texted, .int d_cursor, .int d_start, .int d_token, .int d_number, .long d_word, .int d_isWrong, .int d_saidDishes, .ref p_saidMount, .int d_saidSpeakers, .ref p_saidSpeaker, .int d_saidNoises, .ref p_saidNoise, .int d_saidAskers, .ref p_saidAsker, .ref p_room, .int d_couldBe, .int d_couldHere])), (p_noise, .inl (cI, 9, .inl d_noise)), (p_speaker, .inl (cI, 20, .inl d_speaker)), (p_st, .inl (cI, 104, .inl d_st))] := hD.sub [2, 0, 3, 1] (by decide) rfl
        clear hPc hDc hFc hk1 hz1 hP1 hD1 ht hvm
        generalize H1 = H at hP hS ⊢
        have hrun := Option.some.inj hrun
        subst hrun
        rw [hQ]
        exact W.iret (v := q64.1) hx hb hr (fun t ht hW => ⟨⟨q64.1, (), rfl, rfl, by rw [ht]; exact hP, hD⟩, hS.F ht⟩) hS.2.2 dX6_mark_67
      rw [if_neg c_20_1] at hrun
      by_cases c_20_2 : x1 = 2
      · rw [if_pos c_20_2] at hrun
        refine lv_tableIn (tgt := 68) (off := 48) hx hb dX6_mark_20 (by rw [c_20_2]; decide) (by rw [c_20_2]; decide) (by rw [c_20_2]; decide) (by decide) ?_
        refine lv_aload_n hx hb dX6_mark_68 rfl (lv_at hl 0 rfl) ?_
        refine lv_iload_n hx hb dX6_mark_69 rfl (lv_at hl 2 rfl) ?_
        obtain ⟨q70, hq70, hrun⟩ := bind_out hrun
        have hPc : va_P (dC, dI) vwCl [(p_this, .inr (6, [.int d_dishes, .int d_speakers, .ref p_speaker, .int d_noises, .ref p_noise, .int d_askers, .ref p_asker, .ref p_st, .ref p_images, .ref p_isKept, .long d_trace, .ref p_text, .int d_texted, .int d_cursor, .int d_start, .int d_token, .int d_number, .long d_word, .int d_isWrong, .int d_saidDishes, .ref p_saidMount, .int d_saidSpeakers, .ref p_saidSpeaker, .int d_saidNoises, .ref p_saidNoise, .int d_saidAskers, .ref p_saidAsker, .ref p_room, .int d_couldBe, .int d_couldHere])), (p_noise, .inl (cI, 9, .inl d_noise))] H := hP.sub [0, 1] rfl
        have hDc : va_D A [(p_this, .inr (6, [.int d_dishes, .int d_speakers, .ref p_speaker, .int d_noises, .ref p_noise, .int d_askers, .ref p_asker, .ref p_st, .ref p_images, .ref p_isKept, .long d_trace, .ref p_text, .int d_texted, .int d_cursor, .int d_start, .int d_token, .int d_number, .long d_word, .int d_isWrong, .int d_saidDishes, .ref p_saidMount, .int d_saidSpeakers, .ref p_saidSpeaker, .int d_saidNoises, .ref p_saidNoise, .int d_saidAskers, .ref p_saidAsker, .ref p_room, .int d_couldBe, .int d_couldHere])), (p_noise, .inl (cI, 9, .inl d_noise))] := hD.sub [0, 1] (by decide) rfl
        have hFc := va_free (wc := [(p_this, .inr (6, [.int d_dishes, .int d_speakers, .ref p_speaker, .int d_noises, .ref p_noise, .int d_askers, .ref p_asker, .ref p_st, .ref p_images, .ref p_isKept, .long d_trace, .ref p_text, .int d_texted, .int d_cursor, .int d_start, .int d_token, .int d_number, .long d_word, .int d_isWrong, .int d_saidDishes, .ref p_saidMount, .int d_saidSpeakers, .ref p_saidSpeaker, .int d_saidNoises, .ref p_saidNoise, .int d_saidAskers, .ref p_saidAsker, .ref p_room, .int d_couldBe, .int d_couldHere])), (p_noise, .inl (cI, 9, .inl d_noise))]) hD hS hA [0, 1] rfl
        refine va_calli (va_runV (As := [.int x2]) (rest := []) ⟨hx, hb, hml, hown, hts⟩ (c_X6_humMark l dC dI cI cZ H.size p_asker p_images p_isKept p_noise p_room p_saidAsker p_saidMount p_saidNoise p_saidSpeaker p_speaker p_st p_text p_this d_dishes d_speakers d_noises d_askers d_trace d_texted d_cursor d_start d_token d_number d_word d_isWrong d_saidDishes d_saidSpeakers d_saidNoises d_saidAskers d_couldBe d_couldHere d_noise x2 q70 hq70) (cwV 1 hts gX6_mark_X6_humMark rfl rfl rfl (by decide +kernel) ⟨Nat.le_of_ble_eq_true rfl, Nat.le_of_ble_eq_true rfl⟩) ⟨fun a U g mk q => ⟨q.1, PC.mv q.2⟩, va_recv hK hP (ci := 6) (q0 := 0) rfl rfl, fun U hU hW => ⟨rfl, PC.of hU hW hPc hK hDc hN⟩⟩ rfl rfl hl.1 rfl (lv_room (Nat.le_of_ble_eq_true rfl)) dX6_mark_70 ⟨Nat.zero_le _, Nat.zero_le _⟩) hS (fun q _ h => hFc q h) hFc (fun r_70 u t H1 locs ht hvm hw hB hz1 hk1 hS => ?_)
        obtain ⟨hP1, hD1⟩ := hB
        try dsimp only at hw
        rw [hw]
        rw [ht] at hP1
        obtain ⟨hP, hD⟩ := va_join (wr := [(p_speaker, .inl (cI, 20, .inl d_speaker)), (p_st, .inl (cI, 104, .inl d_st))]) (w1 := [(p_this, .inr (6, [.int d_dishes, .int d_speakers, .ref p_speaker, .int d_noises, .ref p_noise, .int d_askers, .ref p_asker, .ref p_st, .ref p_images, .ref p_isKept, .long q70.2, .ref p_text, .int d_texted, .int d_cursor, .int d_start, .int d_token, .int d_number, .long d_word, .int d_isWrong, .int d_saidDishes, .ref p_saidMount, .int d_saidSpeakers, .ref p_saidSpeaker, .int d_saidNoises, .ref p_saidNoise, .int d_saidAskers, .ref p_saidAsker, .ref p_room, .int d_couldBe, .int d_couldHere])), (p_noise, .inl (cI, 9, .inl d_noise))]) hP hD [0, 1] [2, 3] rfl rfl (by decide) (by decide) hk1 hFc hP1 hD1
        have hP : va_P (dC, dI) vwCl [(p_this, .inr (6, [.int d_dishes, .int d_speakers, .ref p_speaker, .int d_noises, .ref p_noise, .int d_askers, .ref p_asker, .ref p_st, .ref p_images, .ref p_isKept, .long q70.2, .ref p_text, .int d_texted, .int d_cursor, .int d_start, .int d_token, .int d_number, .long d_word, .int d_isWrong, .int d_saidDishes, .ref p_saidMount, .int d_saidSpeakers, .ref p_saidSpeaker, .int d_saidNoises, .ref p_saidNoise, .int d_saidAskers, .ref p_saidAsker, .ref p_room, .int d_couldBe, .int d_couldHere])), (p_noise, .inl (cI, 9, .inl d_noise)), (p_speaker, .inl (cI, 20, .inl d_speaker)), (p_st, .inl (cI, 104, .inl d_st))] H1 := hP.sub [2, 3, 0, 1] rfl
        have hD : va_D A [(p_this, .inr (6, [.int d_dishes, .int d_speakers, .ref p_speaker, .int d_noises, .ref p_noise, .int d_askers, .ref p_asker, .ref p_st, .ref p_images, .ref p_isKept, .long q70.2, .ref p_text, .int d_texted, .int d_cursor, .int d_start, .int d_token, .int d_number, .long d_word, .int d_isWrong, .int d_saidDishes, .ref p_saidMount, .int d_saidSpeakers, .ref p_saidSpeaker, .int d_saidNoises, .ref p_saidNoise, .int d_saidAskers, .ref p_saidAsker, .ref p_room, .int d_couldBe, .int d_couldHere])), (p_noise, .inl (cI, 9, .inl d_noise)), (p_speaker, .inl (cI, 20, .inl d_speaker)), (p_st, .inl (cI, 104, .inl d_st))] := hD.sub [2, 3, 0, 1] (by decide) rfl
        clear hPc hDc hFc hk1 hz1 hP1 hD1 ht hvm
        generalize H1 = H at hP hS ⊢
        have hrun := Option.some.inj hrun
        subst hrun
        rw [hQ]
        exact W.iret (v := q70.1) hx hb hr (fun t ht hW => ⟨⟨q70.1, (), rfl, rfl, by rw [ht]; exact hP, hD⟩, hS.F ht⟩) hS.2.2 dX6_mark_73
      rw [if_neg c_20_2] at hrun
      by_cases c_20_3 : x1 = 3
      · rw [if_pos c_20_3] at hrun
        refine lv_tableIn (tgt := 74) (off := 54) hx hb dX6_mark_20 (by rw [c_20_3]; decide) (by rw [c_20_3]; decide) (by rw [c_20_3]; decide) (by decide) ?_
        refine lv_aload_n hx hb dX6_mark_74 rfl (lv_at hl 0 rfl) ?_
        refine lv_dup hx hb dX6_mark_75 rfl ?_
        refine va_get (D := (dC, dI)) (ci := 6) (v := .long d_trace) (C := RX6) (T := TX6) (N := 30) hx hb hts iwX6 hown hK hP 0 rfl rfl 10 (by decide) (hts (.fieldLink RX6 207 "SkyListenersModel" "trace" "J") (by decide +kernel)) (fun _ h9 => h9) rfl dX6_mark_76 ?_
        refine lv_ldc2 (v := 1000) hx hb hown (hts (.constantLong RX6 226 (1000)) (by decide +kernel)) dX6_mark_79 ?_
        refine lv_ladd hx hb dX6_mark_82 ?_
        refine va_put (D := (dC, dI)) (ci := 6) (v := .long (d_trace + 1000)) (ty := .long) (C := RX6) (T := TX6) (N := 30) hx hb hts iwX6 tyX6 tyX6_ok nmX6 hown hK hP hD hS 0 rfl rfl 10 (by decide) (hts (.fieldLink RX6 207 "SkyListenersModel" "trace" "J") (by decide +kernel)) (fun _ h9 => h9) rfl (by decide +kernel) rfl rfl (Nat.le_of_ble_eq_true rfl) dX6_mark_83 (fun H locs hP hD hS => ?_)
        have hP : va_P (dC, dI) vwCl [(p_this, .inr (6, [.int d_dishes, .int d_speakers, .ref p_speaker, .int d_noises, .ref p_noise, .int d_askers, .ref p_asker, .ref p_st, .ref p_images, .ref p_isKept, .long (d_trace + 1000), .ref p_text, .int d_texted, .int d_cursor, .int d_start, .int d_token, .int d_number, .long d_word, .int d_isWrong, .int d_saidDishes, .ref p_saidMount, .int d_saidSpeakers, .ref p_saidSpeaker, .int d_saidNoises, .ref p_saidNoise, .int d_saidAskers, .ref p_saidAsker, .ref p_room, .int d_couldBe, .int d_couldHere])), (p_noise, .inl (cI, 9, .inl d_noise)), (p_speaker, .inl (cI, 20, .inl d_speaker)), (p_st, .inl (cI, 104, .inl d_st))] H := hP
        have hD : va_D A [(p_this, .inr (6, [.int d_dishes, .int d_speakers, .ref p_speaker, .int d_noises, .ref p_noise, .int d_askers, .ref p_asker, .ref p_st, .ref p_images, .ref p_isKept, .long (d_trace + 1000), .ref p_text, .int d_texted, .int d_cursor, .int d_start, .int d_token, .int d_number, .long d_word, .int d_isWrong, .int d_saidDishes, .ref p_saidMount, .int d_saidSpeakers, .ref p_saidSpeaker, .int d_saidNoises, .ref p_saidNoise, .int d_saidAskers, .ref p_saidAsker, .ref p_room, .int d_couldBe, .int d_couldHere])), (p_noise, .inl (cI, 9, .inl d_noise)), (p_speaker, .inl (cI, 20, .inl d_speaker)), (p_st, .inl (cI, 104, .inl d_st))] := hD
        refine lv_iconst (v := 2) hx hb dX6_mark_86 (by decide) ?_
        refine lv_aload_n hx hb dX6_mark_87 rfl (lv_at hl 0 rfl) ?_
        refine lv_iload_n hx hb dX6_mark_88 rfl (lv_at hl 2 rfl) ?_
        obtain ⟨q89, hq89, hrun⟩ := bind_out hrun
        have hPc : va_P (dC, dI) vwCl [(p_this, .inr (6, [.int d_dishes, .int d_speakers, .ref p_speaker, .int d_noises, .ref p_noise, .int d_askers, .ref p_asker, .ref p_st, .ref p_images, .ref p_isKept, .long (d_trace + 1000), .ref p_text, .int d_texted, .int d_cursor, .int d_start, .int d_token, .int d_number, .long d_word, .int d_isWrong, .int d_saidDishes, .ref p_saidMount, .int d_saidSpeakers, .ref p_saidSpeaker, .int d_saidNoises, .ref p_saidNoise, .int d_saidAskers, .ref p_saidAsker, .ref p_room, .int d_couldBe, .int d_couldHere])), (p_speaker, .inl (cI, 20, .inl d_speaker))] H := hP.sub [0, 2] rfl
        have hDc : va_D A [(p_this, .inr (6, [.int d_dishes, .int d_speakers, .ref p_speaker, .int d_noises, .ref p_noise, .int d_askers, .ref p_asker, .ref p_st, .ref p_images, .ref p_isKept, .long (d_trace + 1000), .ref p_text, .int d_texted, .int d_cursor, .int d_start, .int d_token, .int d_number, .long d_word, .int d_isWrong, .int d_saidDishes, .ref p_saidMount, .int d_saidSpeakers, .ref p_saidSpeaker, .int d_saidNoises, .ref p_saidNoise, .int d_saidAskers, .ref p_saidAsker, .ref p_room, .int d_couldBe, .int d_couldHere])), (p_speaker, .inl (cI, 20, .inl d_speaker))] := hD.sub [0, 2] (by decide) rfl
        have hFc := va_free (wc := [(p_this, .inr (6, [.int d_dishes, .int d_speakers, .ref p_speaker, .int d_noises, .ref p_noise, .int d_askers, .ref p_asker, .ref p_st, .ref p_images, .ref p_isKept, .long (d_trace + 1000), .ref p_text, .int d_texted, .int d_cursor, .int d_start, .int d_token, .int d_number, .long d_word, .int d_isWrong, .int d_saidDishes, .ref p_saidMount, .int d_saidSpeakers, .ref p_saidSpeaker, .int d_saidNoises, .ref p_saidNoise, .int d_saidAskers, .ref p_saidAsker, .ref p_room, .int d_couldBe, .int d_couldHere])), (p_speaker, .inl (cI, 20, .inl d_speaker))]) hD hS hA [0, 2] rfl
        refine va_calli (va_runV (As := [.int x2]) (rest := [.int 2]) ⟨hx, hb, hml, hown, hts⟩ (c_X6_voiceMark l dC dI cI cZ H.size p_asker p_images p_isKept p_noise p_room p_saidAsker p_saidMount p_saidNoise p_saidSpeaker p_speaker p_st p_text p_this d_dishes d_speakers d_noises d_askers (d_trace + 1000) d_texted d_cursor d_start d_token d_number d_word d_isWrong d_saidDishes d_saidSpeakers d_saidNoises d_saidAskers d_couldBe d_couldHere d_speaker x2 q89 hq89) (cwV 1 hts gX6_mark_X6_voiceMark rfl rfl rfl (by decide +kernel) ⟨Nat.le_of_ble_eq_true rfl, Nat.le_of_ble_eq_true rfl⟩) ⟨fun a U g mk q => ⟨q.1, PC.mv q.2⟩, va_recv hK hP (ci := 6) (q0 := 0) rfl rfl, fun U hU hW => ⟨rfl, PC.of hU hW hPc hK hDc hN⟩⟩ rfl rfl hl.1 rfl (lv_room (Nat.le_of_ble_eq_true rfl)) dX6_mark_89 ⟨Nat.zero_le _, Nat.zero_le _⟩) hS (fun q _ h => hFc q h) hFc (fun r_89 u t H1 locs ht hvm hw hB hz1 hk1 hS => ?_)
        obtain ⟨hP1, hD1⟩ := hB
        try dsimp only at hw
        rw [hw]
        rw [ht] at hP1
        obtain ⟨hP, hD⟩ := va_join (wr := [(p_noise, .inl (cI, 9, .inl d_noise)), (p_st, .inl (cI, 104, .inl d_st))]) (w1 := [(p_this, .inr (6, [.int d_dishes, .int d_speakers, .ref p_speaker, .int d_noises, .ref p_noise, .int d_askers, .ref p_asker, .ref p_st, .ref p_images, .ref p_isKept, .long q89.2, .ref p_text, .int d_texted, .int d_cursor, .int d_start, .int d_token, .int d_number, .long d_word, .int d_isWrong, .int d_saidDishes, .ref p_saidMount, .int d_saidSpeakers, .ref p_saidSpeaker, .int d_saidNoises, .ref p_saidNoise, .int d_saidAskers, .ref p_saidAsker, .ref p_room, .int d_couldBe, .int d_couldHere])), (p_speaker, .inl (cI, 20, .inl d_speaker))]) hP hD [0, 2] [1, 3] rfl rfl (by decide) (by decide) hk1 hFc hP1 hD1
        have hP : va_P (dC, dI) vwCl [(p_this, .inr (6, [.int d_dishes, .int d_speakers, .ref p_speaker, .int d_noises, .ref p_noise, .int d_askers, .ref p_asker, .ref p_st, .ref p_images, .ref p_isKept, .long q89.2, .ref p_text, .int d_texted, .int d_cursor, .int d_start, .int d_token, .int d_number, .long d_word, .int d_isWrong, .int d_saidDishes, .ref p_saidMount, .int d_saidSpeakers, .ref p_saidSpeaker, .int d_saidNoises, .ref p_saidNoise, .int d_saidAskers, .ref p_saidAsker, .ref p_room, .int d_couldBe, .int d_couldHere])), (p_noise, .inl (cI, 9, .inl d_noise)), (p_speaker, .inl (cI, 20, .inl d_speaker)), (p_st, .inl (cI, 104, .inl d_st))] H1 := hP.sub [2, 0, 3, 1] rfl
        have hD : va_D A [(p_this, .inr (6, [.int d_dishes, .int d_speakers, .ref p_speaker, .int d_noises, .ref p_noise, .int d_askers, .ref p_asker, .ref p_st, .ref p_images, .ref p_isKept, .long q89.2, .ref p_text, .int d_texted, .int d_cursor, .int d_start, .int d_token, .int d_number, .long d_word, .int d_isWrong, .int d_saidDishes, .ref p_saidMount, .int d_saidSpeakers, .ref p_saidSpeaker, .int d_saidNoises, .ref p_saidNoise, .int d_saidAskers, .ref p_saidAsker, .ref p_room, .int d_couldBe, .int d_couldHere])), (p_noise, .inl (cI, 9, .inl d_noise)), (p_speaker, .inl (cI, 20, .inl d_speaker)), (p_st, .inl (cI, 104, .inl d_st))] := hD.sub [2, 0, 3, 1] (by decide) rfl
        clear hPc hDc hFc hk1 hz1 hP1 hD1 ht hvm
        generalize H1 = H at hP hS ⊢
        refine lv_imul hx hb dX6_mark_92 ?_
        have hrun := Option.some.inj hrun
        subst hrun
        rw [hQ]
        exact W.iret (v := 2 * q89.1) hx hb hr (fun t ht hW => ⟨⟨2 * q89.1, (), rfl, rfl, by rw [ht]; exact hP, hD⟩, hS.F ht⟩) hS.2.2 dX6_mark_93
      rw [if_neg c_20_3] at hrun
      by_cases c_20_4 : x1 = 4
      · rw [if_pos c_20_4] at hrun
        refine lv_tableIn (tgt := 94) (off := 74) hx hb dX6_mark_20 (by rw [c_20_4]; decide) (by rw [c_20_4]; decide) (by rw [c_20_4]; decide) (by decide) ?_
        refine lv_aload_n hx hb dX6_mark_94 rfl (lv_at hl 0 rfl) ?_
        refine lv_iload_n hx hb dX6_mark_95 rfl (lv_at hl 2 rfl) ?_
        obtain ⟨q96, hq96, hrun⟩ := bind_out hrun
        have hPc : va_P (dC, dI) vwCl [(p_this, .inr (6, [.int d_dishes, .int d_speakers, .ref p_speaker, .int d_noises, .ref p_noise, .int d_askers, .ref p_asker, .ref p_st, .ref p_images, .ref p_isKept, .long d_trace, .ref p_text, .int d_texted, .int d_cursor, .int d_start, .int d_token, .int d_number, .long d_word, .int d_isWrong, .int d_saidDishes, .ref p_saidMount, .int d_saidSpeakers, .ref p_saidSpeaker, .int d_saidNoises, .ref p_saidNoise, .int d_saidAskers, .ref p_saidAsker, .ref p_room, .int d_couldBe, .int d_couldHere])), (p_noise, .inl (cI, 9, .inl d_noise)), (p_st, .inl (cI, 104, .inl d_st))] H := hP.sub [0, 1, 3] rfl
        have hDc : va_D A [(p_this, .inr (6, [.int d_dishes, .int d_speakers, .ref p_speaker, .int d_noises, .ref p_noise, .int d_askers, .ref p_asker, .ref p_st, .ref p_images, .ref p_isKept, .long d_trace, .ref p_text, .int d_texted, .int d_cursor, .int d_start, .int d_token, .int d_number, .long d_word, .int d_isWrong, .int d_saidDishes, .ref p_saidMount, .int d_saidSpeakers, .ref p_saidSpeaker, .int d_saidNoises, .ref p_saidNoise, .int d_saidAskers, .ref p_saidAsker, .ref p_room, .int d_couldBe, .int d_couldHere])), (p_noise, .inl (cI, 9, .inl d_noise)), (p_st, .inl (cI, 104, .inl d_st))] := hD.sub [0, 1, 3] (by decide) rfl
        have hFc := va_free (wc := [(p_this, .inr (6, [.int d_dishes, .int d_speakers, .ref p_speaker, .int d_noises, .ref p_noise, .int d_askers, .ref p_asker, .ref p_st, .ref p_images, .ref p_isKept, .long d_trace, .ref p_text, .int d_texted, .int d_cursor, .int d_start, .int d_token, .int d_number, .long d_word, .int d_isWrong, .int d_saidDishes, .ref p_saidMount, .int d_saidSpeakers, .ref p_saidSpeaker, .int d_saidNoises, .ref p_saidNoise, .int d_saidAskers, .ref p_saidAsker, .ref p_room, .int d_couldBe, .int d_couldHere])), (p_noise, .inl (cI, 9, .inl d_noise)), (p_st, .inl (cI, 104, .inl d_st))]) hD hS hA [0, 1, 3] rfl
        refine va_calli (va_runV (As := [.int x2]) (rest := []) ⟨hx, hb, hml, hown, hts⟩ (c_X6_kettleMark l dC dI cI cZ H.size p_asker p_images p_isKept p_noise p_room p_saidAsker p_saidMount p_saidNoise p_saidSpeaker p_speaker p_st p_text p_this d_dishes d_speakers d_noises d_askers d_trace d_texted d_cursor d_start d_token d_number d_word d_isWrong d_saidDishes d_saidSpeakers d_saidNoises d_saidAskers d_couldBe d_couldHere d_noise d_st x2 q96 hq96) (cwV 1 hts gX6_mark_X6_kettleMark rfl rfl rfl (by decide +kernel) ⟨Nat.le_of_ble_eq_true rfl, Nat.le_of_ble_eq_true rfl⟩) ⟨fun a U g mk q => ⟨q.1, PC.mv q.2⟩, va_recv hK hP (ci := 6) (q0 := 0) rfl rfl, fun U hU hW => ⟨rfl, PC.of hU hW hPc hK hDc hN⟩⟩ rfl rfl hl.1 rfl (lv_room (Nat.le_of_ble_eq_true rfl)) dX6_mark_96 ⟨Nat.zero_le _, Nat.zero_le _⟩) hS (fun q _ h => hFc q h) hFc (fun r_96 u t H1 locs ht hvm hw hB hz1 hk1 hS => ?_)
        obtain ⟨hP1, hD1⟩ := hB
        try dsimp only at hw
        rw [hw]
        rw [ht] at hP1
        obtain ⟨hP, hD⟩ := va_join (wr := [(p_speaker, .inl (cI, 20, .inl d_speaker))]) (w1 := [(p_this, .inr (6, [.int d_dishes, .int d_speakers, .ref p_speaker, .int d_noises, .ref p_noise, .int d_askers, .ref p_asker, .ref p_st, .ref p_images, .ref p_isKept, .long q96.2, .ref p_text, .int d_texted, .int d_cursor, .int d_start, .int d_token, .int d_number, .long d_word, .int d_isWrong, .int d_saidDishes, .ref p_saidMount, .int d_saidSpeakers, .ref p_saidSpeaker, .int d_saidNoises, .ref p_saidNoise, .int d_saidAskers, .ref p_saidAsker, .ref p_room, .int d_couldBe, .int d_couldHere])), (p_noise, .inl (cI, 9, .inl d_noise)), (p_st, .inl (cI, 104, .inl d_st))]) hP hD [0, 1, 3] [2] rfl rfl (by decide) (by decide) hk1 hFc hP1 hD1
        have hP : va_P (dC, dI) vwCl [(p_this, .inr (6, [.int d_dishes, .int d_speakers, .ref p_speaker, .int d_noises, .ref p_noise, .int d_askers, .ref p_asker, .ref p_st, .ref p_images, .ref p_isKept, .long q96.2, .ref p_text, .int d_texted, .int d_cursor, .int d_start, .int d_token, .int d_number, .long d_word, .int d_isWrong, .int d_saidDishes, .ref p_saidMount, .int d_saidSpeakers, .ref p_saidSpeaker, .int d_saidNoises, .ref p_saidNoise, .int d_saidAskers, .ref p_saidAsker, .ref p_room, .int d_couldBe, .int d_couldHere])), (p_noise, .inl (cI, 9, .inl d_noise)), (p_speaker, .inl (cI, 20, .inl d_speaker)), (p_st, .inl (cI, 104, .inl d_st))] H1 := hP.sub [1, 2, 0, 3] rfl
        have hD : va_D A [(p_this, .inr (6, [.int d_dishes, .int d_speakers, .ref p_speaker, .int d_noises, .ref p_noise, .int d_askers, .ref p_asker, .ref p_st, .ref p_images, .ref p_isKept, .long q96.2, .ref p_text, .int d_texted, .int d_cursor, .int d_start, .int d_token, .int d_number, .long d_word, .int d_isWrong, .int d_saidDishes, .ref p_saidMount, .int d_saidSpeakers, .ref p_saidSpeaker, .int d_saidNoises, .ref p_saidNoise, .int d_saidAskers, .ref p_saidAsker, .ref p_room, .int d_couldBe, .int d_couldHere])), (p_noise, .inl (cI, 9, .inl d_noise)), (p_speaker, .inl (cI, 20, .inl d_speaker)), (p_st, .inl (cI, 104, .inl d_st))] := hD.sub [1, 2, 0, 3] (by decide) rfl
        clear hPc hDc hFc hk1 hz1 hP1 hD1 ht hvm
        generalize H1 = H at hP hS ⊢
        have hrun := Option.some.inj hrun
        subst hrun
        rw [hQ]
        exact W.iret (v := q96.1) hx hb hr (fun t ht hW => ⟨⟨q96.1, (), rfl, rfl, by rw [ht]; exact hP, hD⟩, hS.F ht⟩) hS.2.2 dX6_mark_99
      rw [if_neg c_20_4] at hrun
      refine lv_tableOut (tgt := 100) hx hb dX6_mark_20 (tab_out4 c_20_0 c_20_1 c_20_2 c_20_3 c_20_4) (by decide) ?_
      refine lv_aload_n hx hb dX6_mark_100 rfl (lv_at hl 0 rfl) ?_
      refine lv_dup hx hb dX6_mark_101 rfl ?_
      refine va_get (D := (dC, dI)) (ci := 6) (v := .long d_trace) (C := RX6) (T := TX6) (N := 30) hx hb hts iwX6 hown hK hP 0 rfl rfl 10 (by decide) (hts (.fieldLink RX6 207 "SkyListenersModel" "trace" "J") (by decide +kernel)) (fun _ h9 => h9) rfl dX6_mark_102 ?_
      refine lv_ldc2 (v := 100000) hx hb hown (hts (.constantLong RX6 231 (100000)) (by decide +kernel)) dX6_mark_105 ?_
      refine lv_ladd hx hb dX6_mark_108 ?_
      refine va_put (D := (dC, dI)) (ci := 6) (v := .long (d_trace + 100000)) (ty := .long) (C := RX6) (T := TX6) (N := 30) hx hb hts iwX6 tyX6 tyX6_ok nmX6 hown hK hP hD hS 0 rfl rfl 10 (by decide) (hts (.fieldLink RX6 207 "SkyListenersModel" "trace" "J") (by decide +kernel)) (fun _ h9 => h9) rfl (by decide +kernel) rfl rfl (Nat.le_of_ble_eq_true rfl) dX6_mark_109 (fun H locs hP hD hS => ?_)
      have hP : va_P (dC, dI) vwCl [(p_this, .inr (6, [.int d_dishes, .int d_speakers, .ref p_speaker, .int d_noises, .ref p_noise, .int d_askers, .ref p_asker, .ref p_st, .ref p_images, .ref p_isKept, .long (d_trace + 100000), .ref p_text, .int d_texted, .int d_cursor, .int d_start, .int d_token, .int d_number, .long d_word, .int d_isWrong, .int d_saidDishes, .ref p_saidMount, .int d_saidSpeakers, .ref p_saidSpeaker, .int d_saidNoises, .ref p_saidNoise, .int d_saidAskers, .ref p_saidAsker, .ref p_room, .int d_couldBe, .int d_couldHere])), (p_noise, .inl (cI, 9, .inl d_noise)), (p_speaker, .inl (cI, 20, .inl d_speaker)), (p_st, .inl (cI, 104, .inl d_st))] H := hP
      have hD : va_D A [(p_this, .inr (6, [.int d_dishes, .int d_speakers, .ref p_speaker, .int d_noises, .ref p_noise, .int d_askers, .ref p_asker, .ref p_st, .ref p_images, .ref p_isKept, .long (d_trace + 100000), .ref p_text, .int d_texted, .int d_cursor, .int d_start, .int d_token, .int d_number, .long d_word, .int d_isWrong, .int d_saidDishes, .ref p_saidMount, .int d_saidSpeakers, .ref p_saidSpeaker, .int d_saidNoises, .ref p_saidNoise, .int d_saidAskers, .ref p_saidAsker, .ref p_room, .int d_couldBe, .int d_couldHere])), (p_noise, .inl (cI, 9, .inl d_noise)), (p_speaker, .inl (cI, 20, .inl d_speaker)), (p_st, .inl (cI, 104, .inl d_st))] := hD
      refine lv_aload_n hx hb dX6_mark_112 rfl (lv_at hl 0 rfl) ?_
      refine lv_iload_n hx hb dX6_mark_113 rfl (lv_at hl 2 rfl) ?_
      have hPc : va_P (dC, dI) vwCl [(p_this, .inr (6, [.int d_dishes, .int d_speakers, .ref p_speaker, .int d_noises, .ref p_noise, .int d_askers, .ref p_asker, .ref p_st, .ref p_images, .ref p_isKept, .long (d_trace + 100000), .ref p_text, .int d_texted, .int d_cursor, .int d_start, .int d_token, .int d_number, .long d_word, .int d_isWrong, .int d_saidDishes, .ref p_saidMount, .int d_saidSpeakers, .ref p_saidSpeaker, .int d_saidNoises, .ref p_saidNoise, .int d_saidAskers, .ref p_saidAsker, .ref p_room, .int d_couldBe, .int d_couldHere]))] H := hP.sub [0] rfl
      have hDc : va_D A [(p_this, .inr (6, [.int d_dishes, .int d_speakers, .ref p_speaker, .int d_noises, .ref p_noise, .int d_askers, .ref p_asker, .ref p_st, .ref p_images, .ref p_isKept, .long (d_trace + 100000), .ref p_text, .int d_texted, .int d_cursor, .int d_start, .int d_token, .int d_number, .long d_word, .int d_isWrong, .int d_saidDishes, .ref p_saidMount, .int d_saidSpeakers, .ref p_saidSpeaker, .int d_saidNoises, .ref p_saidNoise, .int d_saidAskers, .ref p_saidAsker, .ref p_room, .int d_couldBe, .int d_couldHere]))] := hD.sub [0] (by decide) rfl
      have hFc := va_free (wc := [(p_this, .inr (6, [.int d_dishes, .int d_speakers, .ref p_speaker, .int d_noises, .ref p_noise, .int d_askers, .ref p_asker, .ref p_st, .ref p_images, .ref p_isKept, .long (d_trace + 100000), .ref p_text, .int d_texted, .int d_cursor, .int d_start, .int d_token, .int d_number, .long d_word, .int d_isWrong, .int d_saidDishes, .ref p_saidMount, .int d_saidSpeakers, .ref p_saidSpeaker, .int d_saidNoises, .ref p_saidNoise, .int d_saidAskers, .ref p_saidAsker, .ref p_room, .int d_couldBe, .int d_couldHere]))]) hD hS hA [0] rfl
      refine va_calli (va_runV (As := [.int x2]) (rest := []) ⟨hx, hb, hml, hown, hts⟩ (c_X6_noteMark l dC dI cI cZ H.size p_asker p_images p_isKept p_noise p_room p_saidAsker p_saidMount p_saidNoise p_saidSpeaker p_speaker p_st p_text p_this d_dishes d_speakers d_noises d_askers (d_trace + 100000) d_texted d_cursor d_start d_token d_number d_word d_isWrong d_saidDishes d_saidSpeakers d_saidNoises d_saidAskers d_couldBe d_couldHere x2 (f_X6_noteMark (d_trace + 100000) x2) rfl) (cwV 1 hts gX6_mark_X6_noteMark rfl rfl rfl (by decide +kernel) ⟨Nat.le_of_ble_eq_true rfl, Nat.le_of_ble_eq_true rfl⟩) ⟨fun a U g mk q => ⟨q.1, PC.mv q.2⟩, va_recv hK hP (ci := 6) (q0 := 0) rfl rfl, fun U hU hW => ⟨rfl, PC.of hU hW hPc hK hDc hN⟩⟩ rfl rfl hl.1 rfl (lv_room (Nat.le_of_ble_eq_true rfl)) dX6_mark_114 ⟨Nat.zero_le _, Nat.zero_le _⟩) hS (fun q _ h => hFc q h) hFc (fun r_114 u t H1 locs ht hvm hw hB hz1 hk1 hS => ?_)
      obtain ⟨hP1, hD1⟩ := hB
      try dsimp only at hw
      rw [hw]
      rw [ht] at hP1
      obtain ⟨hP, hD⟩ := va_join (wr := [(p_noise, .inl (cI, 9, .inl d_noise)), (p_speaker, .inl (cI, 20, .inl d_speaker)), (p_st, .inl (cI, 104, .inl d_st))]) (w1 := [(p_this, .inr (6, [.int d_dishes, .int d_speakers, .ref p_speaker, .int d_noises, .ref p_noise, .int d_askers, .ref p_asker, .ref p_st, .ref p_images, .ref p_isKept, .long ((f_X6_noteMark (d_trace + 100000) x2).2), .ref p_text, .int d_texted, .int d_cursor, .int d_start, .int d_token, .int d_number, .long d_word, .int d_isWrong, .int d_saidDishes, .ref p_saidMount, .int d_saidSpeakers, .ref p_saidSpeaker, .int d_saidNoises, .ref p_saidNoise, .int d_saidAskers, .ref p_saidAsker, .ref p_room, .int d_couldBe, .int d_couldHere]))]) hP hD [0] [1, 2, 3] rfl rfl (by decide) (by decide) hk1 hFc hP1 hD1
      have hP : va_P (dC, dI) vwCl [(p_this, .inr (6, [.int d_dishes, .int d_speakers, .ref p_speaker, .int d_noises, .ref p_noise, .int d_askers, .ref p_asker, .ref p_st, .ref p_images, .ref p_isKept, .long ((f_X6_noteMark (d_trace + 100000) x2).2), .ref p_text, .int d_texted, .int d_cursor, .int d_start, .int d_token, .int d_number, .long d_word, .int d_isWrong, .int d_saidDishes, .ref p_saidMount, .int d_saidSpeakers, .ref p_saidSpeaker, .int d_saidNoises, .ref p_saidNoise, .int d_saidAskers, .ref p_saidAsker, .ref p_room, .int d_couldBe, .int d_couldHere])), (p_noise, .inl (cI, 9, .inl d_noise)), (p_speaker, .inl (cI, 20, .inl d_speaker)), (p_st, .inl (cI, 104, .inl d_st))] H1 := hP.sub [3, 0, 1, 2] rfl
      have hD : va_D A [(p_this, .inr (6, [.int d_dishes, .int d_speakers, .ref p_speaker, .int d_noises, .ref p_noise, .int d_askers, .ref p_asker, .ref p_st, .ref p_images, .ref p_isKept, .long ((f_X6_noteMark (d_trace + 100000) x2).2), .ref p_text, .int d_texted, .int d_cursor, .int d_start, .int d_token, .int d_number, .long d_word, .int d_isWrong, .int d_saidDishes, .ref p_saidMount, .int d_saidSpeakers, .ref p_saidSpeaker, .int d_saidNoises, .ref p_saidNoise, .int d_saidAskers, .ref p_saidAsker, .ref p_room, .int d_couldBe, .int d_couldHere])), (p_noise, .inl (cI, 9, .inl d_noise)), (p_speaker, .inl (cI, 20, .inl d_speaker)), (p_st, .inl (cI, 104, .inl d_st))] := hD.sub [3, 0, 1, 2] (by decide) rfl
      clear hPc hDc hFc hk1 hz1 hP1 hD1 ht hvm
      generalize H1 = H at hP hS ⊢
      refine lv_aload_n hx hb dX6_mark_117 rfl (lv_at hl 0 rfl) ?_
      refine va_get (D := (dC, dI)) (ci := 6) (v := .int d_dishes) (C := RX6) (T := TX6) (N := 30) hx hb hts iwX6 hown hK hP 0 rfl rfl 0 (by decide) (hts (.fieldLink RX6 47 "SkyListenersModel" "dishes" "I") (by decide +kernel)) (fun _ h9 => h9) rfl dX6_mark_118 ?_
      refine lv_iadd hx hb dX6_mark_121 ?_
      have hrun := Option.some.inj hrun
      subst hrun
      rw [hQ]
      exact W.iret (v := ((f_X6_noteMark (d_trace + 100000) x2).1) + d_dishes) hx hb hr (fun t ht hW => ⟨⟨((f_X6_noteMark (d_trace + 100000) x2).1) + d_dishes, (), rfl, rfl, by rw [ht]; exact hP, hD⟩, hS.F ht⟩) hS.2.2 dX6_mark_122
    · rw [if_pos c_13] at hrun
      refine lv_ldc (v := (-1000000)) hx hb hown (hts (.constant RX6 222 (-1000000)) (by decide +kernel)) dX6_mark_16 ?_
      have hrun := Option.some.inj hrun
      subst hrun
      rw [hQ]
      exact W.iret (v := (-1000000)) hx hb hr (fun t ht hW => ⟨⟨(-1000000), (), rfl, rfl, by rw [ht]; exact hP, hD⟩, hS.F ht⟩) hS.2.2 dX6_mark_18
-- SkyListenersModel.keep
def f_X6_keep_X42 (x1 : Int32) (d_isKept : Nat → Int32) (d_st : Nat → Int32) (d_images : Nat → Int32) : Option (Int32 × (Nat → Int32) × (Nat → Int32)) := (if x1 < 0 ∨ 2 ≤ x1.toNatClampNeg then none else (some (d_st (Int32.toNatClampNeg 0), d_images, upd d_isKept x1.toNatClampNeg (vp_nar .boolean 1))))
def f_X6_keep_L13 (K42 : (Nat → Int32) → Option (Int32 × (Nat → Int32) × (Nat → Int32))) (x1 : Int32) (d_isKept : Nat → Int32) (d_st : Nat → Int32) : Nat → Int32 → (Nat → Int32) → Option (Int32 × (Nat → Int32) × (Nat → Int32))
  | 0, _, _ => none
  | n9 + 1, x2, d_images => (if 104 ≤ x2 then (K42 d_images) else (if x2 < 0 ∨ 104 ≤ x2.toNatClampNeg then none else (if ((104 * x1) + x2) < 0 ∨ 208 ≤ ((104 * x1) + x2).toNatClampNeg then none else (f_X6_keep_L13 K42 x1 d_isKept d_st n9 (x2 + 1) (upd d_images ((104 * x1) + x2).toNatClampNeg (d_st x2.toNatClampNeg))))))
def f_X6_keep (d_images : Nat → Int32) (d_isKept : Nat → Int32) (d_st : Nat → Int32) (x1 : Int32) : Option (Int32 × (Nat → Int32) × (Nat → Int32)) := (if (f_X6_in x1 0 1) = 0 then (some ((-1), d_images, d_isKept)) else (f_X6_keep_L13 (f_X6_keep_X42 x1 d_isKept d_st) x1 d_isKept d_st FU 0 d_images))
set_option maxHeartbeats 4000000 in
set_option maxRecDepth 100000 in
theorem c_X6_keep (l : Launch) (dC : Nat → ClassId) (dI : Nat → Nat → Nat) (cI cZ : ClassId) (sz : Nat) (p_asker p_images p_isKept p_noise p_room p_saidAsker p_saidMount p_saidNoise p_saidSpeaker p_speaker p_st p_text p_this : Nat) (d_dishes : Int32) (d_speakers : Int32) (d_noises : Int32) (d_askers : Int32) (d_trace : Int64) (d_texted : Int32) (d_cursor : Int32) (d_start : Int32) (d_token : Int32) (d_number : Int32) (d_word : Int64) (d_isWrong : Int32) (d_saidDishes : Int32) (d_saidSpeakers : Int32) (d_saidNoises : Int32) (d_saidAskers : Int32) (d_couldBe : Int32) (d_couldHere : Int32) (d_images : Nat → Int32) (d_isKept : Nat → Int32) (d_st : Nat → Int32) (x1 : Int32) (out : Int32 × (Nat → Int32) × (Nat → Int32)) (hrun : f_X6_keep d_images d_isKept d_st x1 = some out) : Met l yX6_keep wsX6_keep ({ frames := 1, cells := 0, slots := 0, locals := 22 } : Room) (va_Pc [.ref p_this, .int x1] (PC dC dI cI cZ sz ([(p_this, .inr (6, [.int d_dishes, .int d_speakers, .ref p_speaker, .int d_noises, .ref p_noise, .int d_askers, .ref p_asker, .ref p_st, .ref p_images, .ref p_isKept, .long d_trace, .ref p_text, .int d_texted, .int d_cursor, .int d_start, .int d_token, .int d_number, .long d_word, .int d_isWrong, .int d_saidDishes, .ref p_saidMount, .int d_saidSpeakers, .ref p_saidSpeaker, .int d_saidNoises, .ref p_saidNoise, .int d_saidAskers, .ref p_saidAsker, .ref p_room, .int d_couldBe, .int d_couldHere])), (p_images, .inl (cI, 208, .inl d_images)), (p_isKept, .inl (cZ, 2, .inl d_isKept)), (p_st, .inl (cI, 104, .inl d_st))] : va_W))) (va_Qi (fun r (_ : Unit) => r = out.1) (fun _ t => va_P (dC, dI) vwCl [(p_this, .inr (6, [.int d_dishes, .int d_speakers, .ref p_speaker, .int d_noises, .ref p_noise, .int d_askers, .ref p_asker, .ref p_st, .ref p_images, .ref p_isKept, .long d_trace, .ref p_text, .int d_texted, .int d_cursor, .int d_start, .int d_token, .int d_number, .long d_word, .int d_isWrong, .int d_saidDishes, .ref p_saidMount, .int d_saidSpeakers, .ref p_saidSpeaker, .int d_saidNoises, .ref p_saidNoise, .int d_saidAskers, .ref p_saidAsker, .ref p_room, .int d_couldBe, .int d_couldHere])), (p_images, .inl (cI, 208, .inl out.2.1)), (p_isKept, .inl (cZ, 2, .inl out.2.2)), (p_st, .inl (cI, 104, .inl d_st))] t.heap ∧ va_D (va_A ([(p_this, .inr (6, [.int d_dishes, .int d_speakers, .ref p_speaker, .int d_noises, .ref p_noise, .int d_askers, .ref p_asker, .ref p_st, .ref p_images, .ref p_isKept, .long d_trace, .ref p_text, .int d_texted, .int d_cursor, .int d_start, .int d_token, .int d_number, .long d_word, .int d_isWrong, .int d_saidDishes, .ref p_saidMount, .int d_saidSpeakers, .ref p_saidSpeaker, .int d_saidNoises, .ref p_saidNoise, .int d_saidAskers, .ref p_saidAsker, .ref p_room, .int d_couldBe, .int d_couldHere])), (p_images, .inl (cI, 208, .inl d_images)), (p_isKept, .inl (cZ, 2, .inl d_isKept)), (p_st, .inl (cI, 104, .inl d_st))] : va_W) sz) [(p_this, .inr (6, [.int d_dishes, .int d_speakers, .ref p_speaker, .int d_noises, .ref p_noise, .int d_askers, .ref p_asker, .ref p_st, .ref p_images, .ref p_isKept, .long d_trace, .ref p_text, .int d_texted, .int d_cursor, .int d_start, .int d_token, .int d_number, .long d_word, .int d_isWrong, .int d_saidDishes, .ref p_saidMount, .int d_saidSpeakers, .ref p_saidSpeaker, .int d_saidNoises, .ref p_saidNoise, .int d_saidAskers, .ref p_saidAsker, .ref p_room, .int d_couldBe, .int d_couldHere])), (p_images, .inl (cI, 208, .inl out.2.1)), (p_isKept, .inl (cZ, 2, .inl out.2.2)), (p_st, .inl (cI, 104, .inl d_st))]) (va_A ([(p_this, .inr (6, [.int d_dishes, .int d_speakers, .ref p_speaker, .int d_noises, .ref p_noise, .int d_askers, .ref p_asker, .ref p_st, .ref p_images, .ref p_isKept, .long d_trace, .ref p_text, .int d_texted, .int d_cursor, .int d_start, .int d_token, .int d_number, .long d_word, .int d_isWrong, .int d_saidDishes, .ref p_saidMount, .int d_saidSpeakers, .ref p_saidSpeaker, .int d_saidNoises, .ref p_saidNoise, .int d_saidAskers, .ref p_saidAsker, .ref p_room, .int d_couldBe, .int d_couldHere])), (p_images, .inl (cI, 208, .inl d_images)), (p_isKept, .inl (cZ, 2, .inl d_isKept)), (p_st, .inl (cI, 104, .inl d_st))] : va_W) sz)) 0 0 (va_A ([(p_this, .inr (6, [.int d_dishes, .int d_speakers, .ref p_speaker, .int d_noises, .ref p_noise, .int d_askers, .ref p_asker, .ref p_st, .ref p_images, .ref p_isKept, .long d_trace, .ref p_text, .int d_texted, .int d_cursor, .int d_start, .int d_token, .int d_number, .long d_word, .int d_isWrong, .int d_saidDishes, .ref p_saidMount, .int d_saidSpeakers, .ref p_saidSpeaker, .int d_saidNoises, .ref p_saidNoise, .int d_saidAskers, .ref p_saidAsker, .ref p_room, .int d_couldBe, .int d_couldHere])), (p_images, .inl (cI, 208, .inl d_images)), (p_isKept, .inl (cZ, 2, .inl d_isKept)), (p_st, .inl (cI, 104, .inl d_st))] : va_W) sz) := by
  refine Met.ofW (cc := cX6_keep) (maxL := 3) (ret := (some .int)) (by decide) rfl ?_
  intro p e s m args below meth c s₁ B hml hv
  obtain ⟨rfl, hsz, hP, hK, hD0, hN⟩ := hv
  have hx := B.exec
  have hb := B.bytes
  have hr := B.returns
  have hts := atoms_spec (ws := wsX6_keep) B.pre
  have hown : s.vm.findClass RX6 = some m.cls := findClass_of_methodNamed B.named
  have hlocks := B.notSynchronized
  subst hsz
  have hD := hD0.self (sz := s.heap.size)
  generalize hAe : va_A ([(p_this, .inr (6, [.int d_dishes, .int d_speakers, .ref p_speaker, .int d_noises, .ref p_noise, .int d_askers, .ref p_asker, .ref p_st, .ref p_images, .ref p_isKept, .long d_trace, .ref p_text, .int d_texted, .int d_cursor, .int d_start, .int d_token, .int d_number, .long d_word, .int d_isWrong, .int d_saidDishes, .ref p_saidMount, .int d_saidSpeakers, .ref p_saidSpeaker, .int d_saidNoises, .ref p_saidNoise, .int d_saidAskers, .ref p_saidAsker, .ref p_room, .int d_couldBe, .int d_couldHere])), (p_images, .inl (cI, 208, .inl d_images)), (p_isKept, .inl (cZ, 2, .inl d_isKept)), (p_st, .inl (cI, 104, .inl d_st))] : va_W) s.heap.size = A at hD ⊢
  have hA : ∀ q : Nat, s.heap.size ≤ q → A q := fun q h => by rw [← hAe]; exact Or.inr h
  have hS : va_S A s.heap s.heap [] := va_S.rf
  refine W_abs (fun Q hQ => ?_)
  have hl := lv_entry ([.ref p_this, .int x1]) (n := 3) (Nat.le_of_ble_eq_true rfl)
  rw [lg_entry_eq]
  generalize (lg_sl ([.ref p_this, .int x1]) ++ List.replicate (3 - (lg_sl ([.ref p_this, .int x1])).length) Slot.unset).toArray = ls at hl ⊢
  have hl : lv_has ls 3 [(0, .ref p_this), (1, .int x1)] := hl
  rw [f_X6_keep] at hrun
  refine W_start (ws := [(p_this, .inr (6, [.int d_dishes, .int d_speakers, .ref p_speaker, .int d_noises, .ref p_noise, .int d_askers, .ref p_asker, .ref p_st, .ref p_images, .ref p_isKept, .long d_trace, .ref p_text, .int d_texted, .int d_cursor, .int d_start, .int d_token, .int d_number, .long d_word, .int d_isWrong, .int d_saidDishes, .ref p_saidMount, .int d_saidSpeakers, .ref p_saidSpeaker, .int d_saidNoises, .ref p_saidNoise, .int d_saidAskers, .ref p_saidAsker, .ref p_room, .int d_couldBe, .int d_couldHere])), (p_images, .inl (cI, 208, .inl d_images)), (p_isKept, .inl (cZ, 2, .inl d_isKept)), (p_st, .inl (cI, 104, .inl d_st))]) hP hS (fun H locs hP hS => ?_)
  have iwX6 : ∀ w ∈ wsX60, w ∈ wsX6_keep := by decide +kernel
  refine lv_iload_n hx hb dX6_keep_0 rfl (lv_at hl 1 rfl) ?_
  refine lv_iconst (v := 0) hx hb dX6_keep_1 (by decide) ?_
  refine lv_iconst (v := 1) hx hb dX6_keep_2 (by decide) ?_
  have hPc : va_P (dC, dI) vwCl [] H := hP.sub [] rfl
  have hDc : va_D A [] := hD.sub [] (by decide) rfl
  have hFc := va_free (wc := []) hD hS hA [] rfl
  refine va_calli (va_runS (As := [.int x1, .int 0, .int 1]) (rest := []) ⟨hx, hb, hml, hown, hts⟩ (c_X6_in l dC dI cI cZ H.size x1 0 1 (f_X6_in x1 0 1) rfl) (va_cwS 3 hts gX6_keep_X6_in rfl rfl rfl (by decide +kernel) ⟨Nat.le_of_ble_eq_true rfl, Nat.le_of_ble_eq_true rfl⟩) ⟨fun a U g mk q => ⟨q.1, PC.mv q.2⟩, fun U hU hW => ⟨rfl, PC.of hU hW hPc hK hDc hN⟩⟩ rfl rfl hl.1 rfl (lv_room (Nat.le_of_ble_eq_true rfl)) dX6_keep_3 ⟨Nat.zero_le _, Nat.zero_le _⟩) hS (fun q _ h => hFc q h) hFc (fun r_3 u t H1 locs ht hvm hw hB hz1 hk1 hS => ?_)
  obtain ⟨hP1, hD1⟩ := hB
  try dsimp only at hw
  rw [hw]
  rw [ht] at hP1
  have hP : va_P (dC, dI) vwCl [(p_this, .inr (6, [.int d_dishes, .int d_speakers, .ref p_speaker, .int d_noises, .ref p_noise, .int d_askers, .ref p_asker, .ref p_st, .ref p_images, .ref p_isKept, .long d_trace, .ref p_text, .int d_texted, .int d_cursor, .int d_start, .int d_token, .int d_number, .long d_word, .int d_isWrong, .int d_saidDishes, .ref p_saidMount, .int d_saidSpeakers, .ref p_saidSpeaker, .int d_saidNoises, .ref p_saidNoise, .int d_saidAskers, .ref p_saidAsker, .ref p_room, .int d_couldBe, .int d_couldHere])), (p_images, .inl (cI, 208, .inl d_images)), (p_isKept, .inl (cZ, 2, .inl d_isKept)), (p_st, .inl (cI, 104, .inl d_st))] H1 := join_ro hP hD [] rfl hk1 hP1
  clear hPc hDc hFc hk1 hz1 hP1 hD1 ht hvm
  generalize H1 = H at hP hS ⊢
  refine lv_if_ne (tgt := 11) hx hb dX6_keep_6 (by decide) (fun c_6 => ?_) (fun c_6 => ?_)
  · rw [if_neg c_6] at hrun
    refine lv_iconst (v := 0) hx hb dX6_keep_11 (by decide) ?_
    refine lv_istore_n (lv' := [(2, .int 0), (0, .ref p_this), (1, .int x1)]) hx hb dX6_keep_12 rfl hl (by decide) rfl (fun ls hl => ?_)
    have X42 : ∀ (d_images_42 : Nat → Int32) (H : Heap) (locs : List Loc), va_P (dC, dI) vwCl [(p_this, .inr (6, [.int d_dishes, .int d_speakers, .ref p_speaker, .int d_noises, .ref p_noise, .int d_askers, .ref p_asker, .ref p_st, .ref p_images, .ref p_isKept, .long d_trace, .ref p_text, .int d_texted, .int d_cursor, .int d_start, .int d_token, .int d_number, .long d_word, .int d_isWrong, .int d_saidDishes, .ref p_saidMount, .int d_saidSpeakers, .ref p_saidSpeaker, .int d_saidNoises, .ref p_saidNoise, .int d_saidAskers, .ref p_saidAsker, .ref p_room, .int d_couldBe, .int d_couldHere])), (p_images, .inl (cI, 208, .inl d_images_42)), (p_isKept, .inl (cZ, 2, .inl d_isKept)), (p_st, .inl (cI, 104, .inl d_st))] H → va_D A [(p_this, .inr (6, [.int d_dishes, .int d_speakers, .ref p_speaker, .int d_noises, .ref p_noise, .int d_askers, .ref p_asker, .ref p_st, .ref p_images, .ref p_isKept, .long d_trace, .ref p_text, .int d_texted, .int d_cursor, .int d_start, .int d_token, .int d_number, .long d_word, .int d_isWrong, .int d_saidDishes, .ref p_saidMount, .int d_saidSpeakers, .ref p_saidSpeaker, .int d_saidNoises, .ref p_saidNoise, .int d_saidAskers, .ref p_saidAsker, .ref p_room, .int d_couldBe, .int d_couldHere])), (p_images, .inl (cI, 208, .inl d_images_42)), (p_isKept, .inl (cZ, 2, .inl d_isKept)), (p_st, .inl (cI, 104, .inl d_st))] → va_S A s.heap H locs → ∀ ls : Array Slot, lv_has ls 3 [(0, .ref p_this), (1, .int x1)] → f_X6_keep_X42 x1 d_isKept d_st d_images_42 = some out → W p l e ({ frames := 1, cells := 0, slots := 0, locals := 22 } : Room) s m ([.ref p_this, .int x1] : List Value).toArray below meth c H locs 0 0 Q (F0 m 42 ls []) := by
      intro d_images_42 H locs hP hD hS ls hl hrun
      rw [f_X6_keep_X42] at hrun
      refine lv_aload_n hx hb dX6_keep_42 rfl (lv_at hl 0 rfl) ?_
      refine va_get (D := (dC, dI)) (ci := 6) (v := .ref p_isKept) (C := RX6) (T := TX6) (N := 30) hx hb hts iwX6 hown hK hP 0 rfl rfl 9 (by decide) (hts (.fieldLink RX6 25 "SkyListenersModel" "isKept" "[Z") (by decide +kernel)) (fun _ h9 => h9) rfl dX6_keep_43 ?_
      refine lv_iload_n hx hb dX6_keep_46 rfl (lv_at hl 1 rfl) ?_
      refine lv_iconst (v := 1) hx hb dX6_keep_47 (by decide) ?_
      rcases Classical.em (x1 < 0 ∨ 2 ≤ x1.toNatClampNeg) with g_48 | g_48
      · rw [if_pos g_48] at hrun; cases hrun
      rw [if_neg g_48] at hrun
      refine va_zast hx hb hK hP hD hS 2 1 rfl rfl g_48 dX6_keep_48 (fun H locs hP hD hS => ?_)
      have hP : va_P (dC, dI) vwCl [(p_this, .inr (6, [.int d_dishes, .int d_speakers, .ref p_speaker, .int d_noises, .ref p_noise, .int d_askers, .ref p_asker, .ref p_st, .ref p_images, .ref p_isKept, .long d_trace, .ref p_text, .int d_texted, .int d_cursor, .int d_start, .int d_token, .int d_number, .long d_word, .int d_isWrong, .int d_saidDishes, .ref p_saidMount, .int d_saidSpeakers, .ref p_saidSpeaker, .int d_saidNoises, .ref p_saidNoise, .int d_saidAskers, .ref p_saidAsker, .ref p_room, .int d_couldBe, .int d_couldHere])), (p_images, .inl (cI, 208, .inl d_images_42)), (p_isKept, .inl (cZ, 2, .inl (upd d_isKept x1.toNatClampNeg (vp_nar .boolean 1)))), (p_st, .inl (cI, 104, .inl d_st))] H := hP
      have hD : va_D A [(p_this, .inr (6, [.int d_dishes, .int d_speakers, .ref p_speaker, .int d_noises, .ref p_noise, .int d_askers, .ref p_asker, .ref p_st, .ref p_images, .ref p_isKept, .long d_trace, .ref p_text, .int d_texted, .int d_cursor, .int d_start, .int d_token, .int d_number, .long d_word, .int d_isWrong, .int d_saidDishes, .ref p_saidMount, .int d_saidSpeakers, .ref p_saidSpeaker, .int d_saidNoises, .ref p_saidNoise, .int d_saidAskers, .ref p_saidAsker, .ref p_room, .int d_couldBe, .int d_couldHere])), (p_images, .inl (cI, 208, .inl d_images_42)), (p_isKept, .inl (cZ, 2, .inl (upd d_isKept x1.toNatClampNeg (vp_nar .boolean 1)))), (p_st, .inl (cI, 104, .inl d_st))] := hD
      refine lv_aload_n hx hb dX6_keep_49 rfl (lv_at hl 0 rfl) ?_
      refine va_get (D := (dC, dI)) (ci := 6) (v := .ref p_st) (C := RX6) (T := TX6) (N := 30) hx hb hts iwX6 hown hK hP 0 rfl rfl 7 (by decide) (hts (.fieldLink RX6 19 "SkyListenersModel" "st" "[I") (by decide +kernel)) (fun _ h9 => h9) rfl dX6_keep_50 ?_
      refine lv_iconst (v := 0) hx hb dX6_keep_53 (by decide) ?_
      refine va_iald hx hb hK hP 3 0 rfl rfl (vp_lit (by decide) (by decide)) dX6_keep_54 ?_
      have hrun := Option.some.inj hrun
      subst hrun
      rw [hQ]
      exact W.iret (v := d_st (Int32.toNatClampNeg 0)) hx hb hr (fun t ht hW => ⟨⟨d_st (Int32.toNatClampNeg 0), (), rfl, rfl, by rw [ht]; exact hP, hD⟩, hS.F ht⟩) hS.2.2 dX6_keep_55
    have L13 : ∀ (n9_13 : Nat) (x2_13 : Int32) (d_images_13 : Nat → Int32) (H : Heap) (locs : List Loc), va_P (dC, dI) vwCl [(p_this, .inr (6, [.int d_dishes, .int d_speakers, .ref p_speaker, .int d_noises, .ref p_noise, .int d_askers, .ref p_asker, .ref p_st, .ref p_images, .ref p_isKept, .long d_trace, .ref p_text, .int d_texted, .int d_cursor, .int d_start, .int d_token, .int d_number, .long d_word, .int d_isWrong, .int d_saidDishes, .ref p_saidMount, .int d_saidSpeakers, .ref p_saidSpeaker, .int d_saidNoises, .ref p_saidNoise, .int d_saidAskers, .ref p_saidAsker, .ref p_room, .int d_couldBe, .int d_couldHere])), (p_images, .inl (cI, 208, .inl d_images_13)), (p_isKept, .inl (cZ, 2, .inl d_isKept)), (p_st, .inl (cI, 104, .inl d_st))] H → va_D A [(p_this, .inr (6, [.int d_dishes, .int d_speakers, .ref p_speaker, .int d_noises, .ref p_noise, .int d_askers, .ref p_asker, .ref p_st, .ref p_images, .ref p_isKept, .long d_trace, .ref p_text, .int d_texted, .int d_cursor, .int d_start, .int d_token, .int d_number, .long d_word, .int d_isWrong, .int d_saidDishes, .ref p_saidMount, .int d_saidSpeakers, .ref p_saidSpeaker, .int d_saidNoises, .ref p_saidNoise, .int d_saidAskers, .ref p_saidAsker, .ref p_room, .int d_couldBe, .int d_couldHere])), (p_images, .inl (cI, 208, .inl d_images_13)), (p_isKept, .inl (cZ, 2, .inl d_isKept)), (p_st, .inl (cI, 104, .inl d_st))] → va_S A s.heap H locs → ∀ ls : Array Slot, lv_has ls 3 [(0, .ref p_this), (1, .int x1), (2, .int x2_13)] → f_X6_keep_L13 (f_X6_keep_X42 x1 d_isKept d_st) x1 d_isKept d_st n9_13 x2_13 d_images_13 = some out → W p l e ({ frames := 1, cells := 0, slots := 0, locals := 22 } : Room) s m ([.ref p_this, .int x1] : List Value).toArray below meth c H locs 0 0 Q (F0 m 13 ls []) := by
      intro n9_13
      induction n9_13 with
      | zero =>
        intro x2_13 d_images_13 H locs hP hD hS ls hl hrun
        rw [f_X6_keep_L13] at hrun
        cases hrun
      | succ n9_13 ih13 =>
        intro x2_13 d_images_13 H locs hP hD hS ls hl hrun
        rw [f_X6_keep_L13] at hrun
        refine lv_iload_n hx hb dX6_keep_13 rfl (lv_at hl 2 rfl) ?_
        refine lv_bipush (v := 104) hx hb dX6_keep_14 (by decide) ?_
        refine lv_icmp_ge (tgt := 42) hx hb dX6_keep_16 (by decide) (fun c_16 => ?_) (fun c_16 => ?_)
        · rw [if_pos c_16] at hrun
          exact X42 d_images_13 H locs hP hD hS ls (lv_sub hl [0, 1] rfl) hrun
        · rw [if_neg c_16] at hrun
          refine lv_aload_n hx hb dX6_keep_19 rfl (lv_at hl 0 rfl) ?_
          refine va_get (D := (dC, dI)) (ci := 6) (v := .ref p_images) (C := RX6) (T := TX6) (N := 30) hx hb hts iwX6 hown hK hP 0 rfl rfl 8 (by decide) (hts (.fieldLink RX6 22 "SkyListenersModel" "images" "[I") (by decide +kernel)) (fun _ h9 => h9) rfl dX6_keep_20 ?_
          refine lv_bipush (v := 104) hx hb dX6_keep_23 (by decide) ?_
          refine lv_iload_n hx hb dX6_keep_25 rfl (lv_at hl 1 rfl) ?_
          refine lv_imul hx hb dX6_keep_26 ?_
          refine lv_iload_n hx hb dX6_keep_27 rfl (lv_at hl 2 rfl) ?_
          refine lv_iadd hx hb dX6_keep_28 ?_
          refine lv_aload_n hx hb dX6_keep_29 rfl (lv_at hl 0 rfl) ?_
          refine va_get (D := (dC, dI)) (ci := 6) (v := .ref p_st) (C := RX6) (T := TX6) (N := 30) hx hb hts iwX6 hown hK hP 0 rfl rfl 7 (by decide) (hts (.fieldLink RX6 19 "SkyListenersModel" "st" "[I") (by decide +kernel)) (fun _ h9 => h9) rfl dX6_keep_30 ?_
          refine lv_iload_n hx hb dX6_keep_33 rfl (lv_at hl 2 rfl) ?_
          rcases Classical.em (x2_13 < 0 ∨ 104 ≤ x2_13.toNatClampNeg) with g_34 | g_34
          · rw [if_pos g_34] at hrun; cases hrun
          rw [if_neg g_34] at hrun
          refine va_iald hx hb hK hP 3 0 rfl rfl g_34 dX6_keep_34 ?_
          rcases Classical.em (((104 * x1) + x2_13) < 0 ∨ 208 ≤ ((104 * x1) + x2_13).toNatClampNeg) with g_35 | g_35
          · rw [if_pos g_35] at hrun; cases hrun
          rw [if_neg g_35] at hrun
          refine va_iast hx hb hK hP hD hS 1 0 rfl rfl g_35 dX6_keep_35 (fun H locs hP hD hS => ?_)
          have hP : va_P (dC, dI) vwCl [(p_this, .inr (6, [.int d_dishes, .int d_speakers, .ref p_speaker, .int d_noises, .ref p_noise, .int d_askers, .ref p_asker, .ref p_st, .ref p_images, .ref p_isKept, .long d_trace, .ref p_text, .int d_texted, .int d_cursor, .int d_start, .int d_token, .int d_number, .long d_word, .int d_isWrong, .int d_saidDishes, .ref p_saidMount, .int d_saidSpeakers, .ref p_saidSpeaker, .int d_saidNoises, .ref p_saidNoise, .int d_saidAskers, .ref p_saidAsker, .ref p_room, .int d_couldBe, .int d_couldHere])), (p_images, .inl (cI, 208, .inl (upd d_images_13 ((104 * x1) + x2_13).toNatClampNeg (d_st x2_13.toNatClampNeg)))), (p_isKept, .inl (cZ, 2, .inl d_isKept)), (p_st, .inl (cI, 104, .inl d_st))] H := hP
          have hD : va_D A [(p_this, .inr (6, [.int d_dishes, .int d_speakers, .ref p_speaker, .int d_noises, .ref p_noise, .int d_askers, .ref p_asker, .ref p_st, .ref p_images, .ref p_isKept, .long d_trace, .ref p_text, .int d_texted, .int d_cursor, .int d_start, .int d_token, .int d_number, .long d_word, .int d_isWrong, .int d_saidDishes, .ref p_saidMount, .int d_saidSpeakers, .ref p_saidSpeaker, .int d_saidNoises, .ref p_saidNoise, .int d_saidAskers, .ref p_saidAsker, .ref p_room, .int d_couldBe, .int d_couldHere])), (p_images, .inl (cI, 208, .inl (upd d_images_13 ((104 * x1) + x2_13).toNatClampNeg (d_st x2_13.toNatClampNeg)))), (p_isKept, .inl (cZ, 2, .inl d_isKept)), (p_st, .inl (cI, 104, .inl d_st))] := hD
          refine lv_iinc (v := x2_13 + 1) (lv' := [(2, .int (x2_13 + 1)), (0, .ref p_this), (1, .int x1)]) hx hb dX6_keep_36 hl (k := 2) rfl rfl (by decide) rfl (fun ls hl => ?_)
          refine lv_goto (tgt := 13) hx hb dX6_keep_39 (by decide) ?_
          exact ih13 (x2_13 + 1) (upd d_images_13 ((104 * x1) + x2_13).toNatClampNeg (d_st x2_13.toNatClampNeg)) H locs hP hD hS ls (lv_sub hl [1, 2, 0] rfl) hrun
    exact L13 FU 0 d_images H locs hP hD hS ls (lv_sub hl [1, 2, 0] rfl) hrun
  · rw [if_pos c_6] at hrun
    refine lv_iconst (v := (-1)) hx hb dX6_keep_9 (by decide) ?_
    have hrun := Option.some.inj hrun
    subst hrun
    rw [hQ]
    exact W.iret (v := (-1)) hx hb hr (fun t ht hW => ⟨⟨(-1), (), rfl, rfl, by rw [ht]; exact hP, hD⟩, hS.F ht⟩) hS.2.2 dX6_keep_10
-- SkyListenersModel.back
def f_X6_back_X54 (d_st : Nat → Int32) : Option (Int32 × (Nat → Int32)) := (some (d_st (Int32.toNatClampNeg 0), d_st))
def f_X6_back_L25 (K54 : (Nat → Int32) → Option (Int32 × (Nat → Int32))) (x1 : Int32) (d_images : Nat → Int32) : Nat → Int32 → (Nat → Int32) → Option (Int32 × (Nat → Int32))
  | 0, _, _ => none
  | n9 + 1, x2, d_st => (if 104 ≤ x2 then (K54 d_st) else (if ((104 * x1) + x2) < 0 ∨ 208 ≤ ((104 * x1) + x2).toNatClampNeg then none else (if x2 < 0 ∨ 104 ≤ x2.toNatClampNeg then none else (f_X6_back_L25 K54 x1 d_images n9 (x2 + 1) (upd d_st x2.toNatClampNeg (d_images ((104 * x1) + x2).toNatClampNeg))))))
def f_X6_back (d_images : Nat → Int32) (d_isKept : Nat → Int32) (d_st : Nat → Int32) (x1 : Int32) : Option (Int32 × (Nat → Int32)) := (if (f_X6_in x1 0 1) = 0 then (some ((-1), d_st)) else (if x1 < 0 ∨ 2 ≤ x1.toNatClampNeg then none else (if (d_isKept x1.toNatClampNeg) = 0 then (some ((-2), d_st)) else (f_X6_back_L25 f_X6_back_X54 x1 d_images FU 0 d_st))))
set_option maxHeartbeats 4000000 in
set_option maxRecDepth 100000 in
theorem c_X6_back (l : Launch) (dC : Nat → ClassId) (dI : Nat → Nat → Nat) (cI cZ : ClassId) (sz : Nat) (p_asker p_images p_isKept p_noise p_room p_saidAsker p_saidMount p_saidNoise p_saidSpeaker p_speaker p_st p_text p_this : Nat) (d_dishes : Int32) (d_speakers : Int32) (d_noises : Int32) (d_askers : Int32) (d_trace : Int64) (d_texted : Int32) (d_cursor : Int32) (d_start : Int32) (d_token : Int32) (d_number : Int32) (d_word : Int64) (d_isWrong : Int32) (d_saidDishes : Int32) (d_saidSpeakers : Int32) (d_saidNoises : Int32) (d_saidAskers : Int32) (d_couldBe : Int32) (d_couldHere : Int32) (d_images : Nat → Int32) (d_isKept : Nat → Int32) (d_st : Nat → Int32) (x1 : Int32) (out : Int32 × (Nat → Int32)) (hrun : f_X6_back d_images d_isKept d_st x1 = some out) : Met l yX6_back wsX6_back ({ frames := 1, cells := 0, slots := 0, locals := 22 } : Room) (va_Pc [.ref p_this, .int x1] (PC dC dI cI cZ sz ([(p_this, .inr (6, [.int d_dishes, .int d_speakers, .ref p_speaker, .int d_noises, .ref p_noise, .int d_askers, .ref p_asker, .ref p_st, .ref p_images, .ref p_isKept, .long d_trace, .ref p_text, .int d_texted, .int d_cursor, .int d_start, .int d_token, .int d_number, .long d_word, .int d_isWrong, .int d_saidDishes, .ref p_saidMount, .int d_saidSpeakers, .ref p_saidSpeaker, .int d_saidNoises, .ref p_saidNoise, .int d_saidAskers, .ref p_saidAsker, .ref p_room, .int d_couldBe, .int d_couldHere])), (p_images, .inl (cI, 208, .inl d_images)), (p_isKept, .inl (cZ, 2, .inl d_isKept)), (p_st, .inl (cI, 104, .inl d_st))] : va_W))) (va_Qi (fun r (_ : Unit) => r = out.1) (fun _ t => va_P (dC, dI) vwCl [(p_this, .inr (6, [.int d_dishes, .int d_speakers, .ref p_speaker, .int d_noises, .ref p_noise, .int d_askers, .ref p_asker, .ref p_st, .ref p_images, .ref p_isKept, .long d_trace, .ref p_text, .int d_texted, .int d_cursor, .int d_start, .int d_token, .int d_number, .long d_word, .int d_isWrong, .int d_saidDishes, .ref p_saidMount, .int d_saidSpeakers, .ref p_saidSpeaker, .int d_saidNoises, .ref p_saidNoise, .int d_saidAskers, .ref p_saidAsker, .ref p_room, .int d_couldBe, .int d_couldHere])), (p_images, .inl (cI, 208, .inl d_images)), (p_isKept, .inl (cZ, 2, .inl d_isKept)), (p_st, .inl (cI, 104, .inl out.2))] t.heap ∧ va_D (va_A ([(p_this, .inr (6, [.int d_dishes, .int d_speakers, .ref p_speaker, .int d_noises, .ref p_noise, .int d_askers, .ref p_asker, .ref p_st, .ref p_images, .ref p_isKept, .long d_trace, .ref p_text, .int d_texted, .int d_cursor, .int d_start, .int d_token, .int d_number, .long d_word, .int d_isWrong, .int d_saidDishes, .ref p_saidMount, .int d_saidSpeakers, .ref p_saidSpeaker, .int d_saidNoises, .ref p_saidNoise, .int d_saidAskers, .ref p_saidAsker, .ref p_room, .int d_couldBe, .int d_couldHere])), (p_images, .inl (cI, 208, .inl d_images)), (p_isKept, .inl (cZ, 2, .inl d_isKept)), (p_st, .inl (cI, 104, .inl d_st))] : va_W) sz) [(p_this, .inr (6, [.int d_dishes, .int d_speakers, .ref p_speaker, .int d_noises, .ref p_noise, .int d_askers, .ref p_asker, .ref p_st, .ref p_images, .ref p_isKept, .long d_trace, .ref p_text, .int d_texted, .int d_cursor, .int d_start, .int d_token, .int d_number, .long d_word, .int d_isWrong, .int d_saidDishes, .ref p_saidMount, .int d_saidSpeakers, .ref p_saidSpeaker, .int d_saidNoises, .ref p_saidNoise, .int d_saidAskers, .ref p_saidAsker, .ref p_room, .int d_couldBe, .int d_couldHere])), (p_images, .inl (cI, 208, .inl d_images)), (p_isKept, .inl (cZ, 2, .inl d_isKept)), (p_st, .inl (cI, 104, .inl out.2))]) (va_A ([(p_this, .inr (6, [.int d_dishes, .int d_speakers, .ref p_speaker, .int d_noises, .ref p_noise, .int d_askers, .ref p_asker, .ref p_st, .ref p_images, .ref p_isKept, .long d_trace, .ref p_text, .int d_texted, .int d_cursor, .int d_start, .int d_token, .int d_number, .long d_word, .int d_isWrong, .int d_saidDishes, .ref p_saidMount, .int d_saidSpeakers, .ref p_saidSpeaker, .int d_saidNoises, .ref p_saidNoise, .int d_saidAskers, .ref p_saidAsker, .ref p_room, .int d_couldBe, .int d_couldHere])), (p_images, .inl (cI, 208, .inl d_images)), (p_isKept, .inl (cZ, 2, .inl d_isKept)), (p_st, .inl (cI, 104, .inl d_st))] : va_W) sz)) 0 0 (va_A ([(p_this, .inr (6, [.int d_dishes, .int d_speakers, .ref p_speaker, .int d_noises, .ref p_noise, .int d_askers, .ref p_asker, .ref p_st, .ref p_images, .ref p_isKept, .long d_trace, .ref p_text, .int d_texted, .int d_cursor, .int d_start, .int d_token, .int d_number, .long d_word, .int d_isWrong, .int d_saidDishes, .ref p_saidMount, .int d_saidSpeakers, .ref p_saidSpeaker, .int d_saidNoises, .ref p_saidNoise, .int d_saidAskers, .ref p_saidAsker, .ref p_room, .int d_couldBe, .int d_couldHere])), (p_images, .inl (cI, 208, .inl d_images)), (p_isKept, .inl (cZ, 2, .inl d_isKept)), (p_st, .inl (cI, 104, .inl d_st))] : va_W) sz) := by
  refine Met.ofW (cc := cX6_back) (maxL := 3) (ret := (some .int)) (by decide) rfl ?_
  intro p e s m args below meth c s₁ B hml hv
  obtain ⟨rfl, hsz, hP, hK, hD0, hN⟩ := hv
  have hx := B.exec
  have hb := B.bytes
  have hr := B.returns
  have hts := atoms_spec (ws := wsX6_back) B.pre
  have hown : s.vm.findClass RX6 = some m.cls := findClass_of_methodNamed B.named
  have hlocks := B.notSynchronized
  subst hsz
  have hD := hD0.self (sz := s.heap.size)
  generalize hAe : va_A ([(p_this, .inr (6, [.int d_dishes, .int d_speakers, .ref p_speaker, .int d_noises, .ref p_noise, .int d_askers, .ref p_asker, .ref p_st, .ref p_images, .ref p_isKept, .long d_trace, .ref p_text, .int d_texted, .int d_cursor, .int d_start, .int d_token, .int d_number, .long d_word, .int d_isWrong, .int d_saidDishes, .ref p_saidMount, .int d_saidSpeakers, .ref p_saidSpeaker, .int d_saidNoises, .ref p_saidNoise, .int d_saidAskers, .ref p_saidAsker, .ref p_room, .int d_couldBe, .int d_couldHere])), (p_images, .inl (cI, 208, .inl d_images)), (p_isKept, .inl (cZ, 2, .inl d_isKept)), (p_st, .inl (cI, 104, .inl d_st))] : va_W) s.heap.size = A at hD ⊢
  have hA : ∀ q : Nat, s.heap.size ≤ q → A q := fun q h => by rw [← hAe]; exact Or.inr h
  have hS : va_S A s.heap s.heap [] := va_S.rf
  refine W_abs (fun Q hQ => ?_)
  have hl := lv_entry ([.ref p_this, .int x1]) (n := 3) (Nat.le_of_ble_eq_true rfl)
  rw [lg_entry_eq]
  generalize (lg_sl ([.ref p_this, .int x1]) ++ List.replicate (3 - (lg_sl ([.ref p_this, .int x1])).length) Slot.unset).toArray = ls at hl ⊢
  have hl : lv_has ls 3 [(0, .ref p_this), (1, .int x1)] := hl
  rw [f_X6_back] at hrun
  refine W_start (ws := [(p_this, .inr (6, [.int d_dishes, .int d_speakers, .ref p_speaker, .int d_noises, .ref p_noise, .int d_askers, .ref p_asker, .ref p_st, .ref p_images, .ref p_isKept, .long d_trace, .ref p_text, .int d_texted, .int d_cursor, .int d_start, .int d_token, .int d_number, .long d_word, .int d_isWrong, .int d_saidDishes, .ref p_saidMount, .int d_saidSpeakers, .ref p_saidSpeaker, .int d_saidNoises, .ref p_saidNoise, .int d_saidAskers, .ref p_saidAsker, .ref p_room, .int d_couldBe, .int d_couldHere])), (p_images, .inl (cI, 208, .inl d_images)), (p_isKept, .inl (cZ, 2, .inl d_isKept)), (p_st, .inl (cI, 104, .inl d_st))]) hP hS (fun H locs hP hS => ?_)
  have iwX6 : ∀ w ∈ wsX60, w ∈ wsX6_back := by decide +kernel
  refine lv_iload_n hx hb dX6_back_0 rfl (lv_at hl 1 rfl) ?_
  refine lv_iconst (v := 0) hx hb dX6_back_1 (by decide) ?_
  refine lv_iconst (v := 1) hx hb dX6_back_2 (by decide) ?_
  have hPc : va_P (dC, dI) vwCl [] H := hP.sub [] rfl
  have hDc : va_D A [] := hD.sub [] (by decide) rfl
  have hFc := va_free (wc := []) hD hS hA [] rfl
  refine va_calli (va_runS (As := [.int x1, .int 0, .int 1]) (rest := []) ⟨hx, hb, hml, hown, hts⟩ (c_X6_in l dC dI cI cZ H.size x1 0 1 (f_X6_in x1 0 1) rfl) (va_cwS 3 hts gX6_back_X6_in rfl rfl rfl (by decide +kernel) ⟨Nat.le_of_ble_eq_true rfl, Nat.le_of_ble_eq_true rfl⟩) ⟨fun a U g mk q => ⟨q.1, PC.mv q.2⟩, fun U hU hW => ⟨rfl, PC.of hU hW hPc hK hDc hN⟩⟩ rfl rfl hl.1 rfl (lv_room (Nat.le_of_ble_eq_true rfl)) dX6_back_3 ⟨Nat.zero_le _, Nat.zero_le _⟩) hS (fun q _ h => hFc q h) hFc (fun r_3 u t H1 locs ht hvm hw hB hz1 hk1 hS => ?_)
  obtain ⟨hP1, hD1⟩ := hB
  try dsimp only at hw
  rw [hw]
  rw [ht] at hP1
  have hP : va_P (dC, dI) vwCl [(p_this, .inr (6, [.int d_dishes, .int d_speakers, .ref p_speaker, .int d_noises, .ref p_noise, .int d_askers, .ref p_asker, .ref p_st, .ref p_images, .ref p_isKept, .long d_trace, .ref p_text, .int d_texted, .int d_cursor, .int d_start, .int d_token, .int d_number, .long d_word, .int d_isWrong, .int d_saidDishes, .ref p_saidMount, .int d_saidSpeakers, .ref p_saidSpeaker, .int d_saidNoises, .ref p_saidNoise, .int d_saidAskers, .ref p_saidAsker, .ref p_room, .int d_couldBe, .int d_couldHere])), (p_images, .inl (cI, 208, .inl d_images)), (p_isKept, .inl (cZ, 2, .inl d_isKept)), (p_st, .inl (cI, 104, .inl d_st))] H1 := join_ro hP hD [] rfl hk1 hP1
  clear hPc hDc hFc hk1 hz1 hP1 hD1 ht hvm
  generalize H1 = H at hP hS ⊢
  refine lv_if_ne (tgt := 11) hx hb dX6_back_6 (by decide) (fun c_6 => ?_) (fun c_6 => ?_)
  · rw [if_neg c_6] at hrun
    refine lv_aload_n hx hb dX6_back_11 rfl (lv_at hl 0 rfl) ?_
    refine va_get (D := (dC, dI)) (ci := 6) (v := .ref p_isKept) (C := RX6) (T := TX6) (N := 30) hx hb hts iwX6 hown hK hP 0 rfl rfl 9 (by decide) (hts (.fieldLink RX6 25 "SkyListenersModel" "isKept" "[Z") (by decide +kernel)) (fun _ h9 => h9) rfl dX6_back_12 ?_
    refine lv_iload_n hx hb dX6_back_15 rfl (lv_at hl 1 rfl) ?_
    rcases Classical.em (x1 < 0 ∨ 2 ≤ x1.toNatClampNeg) with g_16 | g_16
    · rw [if_pos g_16] at hrun; cases hrun
    rw [if_neg g_16] at hrun
    refine va_zald hx hb hK hP 2 1 rfl rfl g_16 dX6_back_16 ?_
    refine lv_if_ne (tgt := 23) hx hb dX6_back_17 (by decide) (fun c_17 => ?_) (fun c_17 => ?_)
    · rw [if_neg c_17] at hrun
      refine lv_iconst (v := 0) hx hb dX6_back_23 (by decide) ?_
      refine lv_istore_n (lv' := [(2, .int 0), (0, .ref p_this), (1, .int x1)]) hx hb dX6_back_24 rfl hl (by decide) rfl (fun ls hl => ?_)
      have X54 : ∀ (d_st_54 : Nat → Int32) (H : Heap) (locs : List Loc), va_P (dC, dI) vwCl [(p_this, .inr (6, [.int d_dishes, .int d_speakers, .ref p_speaker, .int d_noises, .ref p_noise, .int d_askers, .ref p_asker, .ref p_st, .ref p_images, .ref p_isKept, .long d_trace, .ref p_text, .int d_texted, .int d_cursor, .int d_start, .int d_token, .int d_number, .long d_word, .int d_isWrong, .int d_saidDishes, .ref p_saidMount, .int d_saidSpeakers, .ref p_saidSpeaker, .int d_saidNoises, .ref p_saidNoise, .int d_saidAskers, .ref p_saidAsker, .ref p_room, .int d_couldBe, .int d_couldHere])), (p_images, .inl (cI, 208, .inl d_images)), (p_isKept, .inl (cZ, 2, .inl d_isKept)), (p_st, .inl (cI, 104, .inl d_st_54))] H → va_D A [(p_this, .inr (6, [.int d_dishes, .int d_speakers, .ref p_speaker, .int d_noises, .ref p_noise, .int d_askers, .ref p_asker, .ref p_st, .ref p_images, .ref p_isKept, .long d_trace, .ref p_text, .int d_texted, .int d_cursor, .int d_start, .int d_token, .int d_number, .long d_word, .int d_isWrong, .int d_saidDishes, .ref p_saidMount, .int d_saidSpeakers, .ref p_saidSpeaker, .int d_saidNoises, .ref p_saidNoise, .int d_saidAskers, .ref p_saidAsker, .ref p_room, .int d_couldBe, .int d_couldHere])), (p_images, .inl (cI, 208, .inl d_images)), (p_isKept, .inl (cZ, 2, .inl d_isKept)), (p_st, .inl (cI, 104, .inl d_st_54))] → va_S A s.heap H locs → ∀ ls : Array Slot, lv_has ls 3 [(0, .ref p_this)] → f_X6_back_X54 d_st_54 = some out → W p l e ({ frames := 1, cells := 0, slots := 0, locals := 22 } : Room) s m ([.ref p_this, .int x1] : List Value).toArray below meth c H locs 0 0 Q (F0 m 54 ls []) := by
        intro d_st_54 H locs hP hD hS ls hl hrun
        rw [f_X6_back_X54] at hrun
        refine lv_aload_n hx hb dX6_back_54 rfl (lv_at hl 0 rfl) ?_
        refine va_get (D := (dC, dI)) (ci := 6) (v := .ref p_st) (C := RX6) (T := TX6) (N := 30) hx hb hts iwX6 hown hK hP 0 rfl rfl 7 (by decide) (hts (.fieldLink RX6 19 "SkyListenersModel" "st" "[I") (by decide +kernel)) (fun _ h9 => h9) rfl dX6_back_55 ?_
        refine lv_iconst (v := 0) hx hb dX6_back_58 (by decide) ?_
        refine va_iald hx hb hK hP 3 0 rfl rfl (vp_lit (by decide) (by decide)) dX6_back_59 ?_
        have hrun := Option.some.inj hrun
        subst hrun
        rw [hQ]
        exact W.iret (v := d_st_54 (Int32.toNatClampNeg 0)) hx hb hr (fun t ht hW => ⟨⟨d_st_54 (Int32.toNatClampNeg 0), (), rfl, rfl, by rw [ht]; exact hP, hD⟩, hS.F ht⟩) hS.2.2 dX6_back_60
      have L25 : ∀ (n9_25 : Nat) (x2_25 : Int32) (d_st_25 : Nat → Int32) (H : Heap) (locs : List Loc), va_P (dC, dI) vwCl [(p_this, .inr (6, [.int d_dishes, .int d_speakers, .ref p_speaker, .int d_noises, .ref p_noise, .int d_askers, .ref p_asker, .ref p_st, .ref p_images, .ref p_isKept, .long d_trace, .ref p_text, .int d_texted, .int d_cursor, .int d_start, .int d_token, .int d_number, .long d_word, .int d_isWrong, .int d_saidDishes, .ref p_saidMount, .int d_saidSpeakers, .ref p_saidSpeaker, .int d_saidNoises, .ref p_saidNoise, .int d_saidAskers, .ref p_saidAsker, .ref p_room, .int d_couldBe, .int d_couldHere])), (p_images, .inl (cI, 208, .inl d_images)), (p_isKept, .inl (cZ, 2, .inl d_isKept)), (p_st, .inl (cI, 104, .inl d_st_25))] H → va_D A [(p_this, .inr (6, [.int d_dishes, .int d_speakers, .ref p_speaker, .int d_noises, .ref p_noise, .int d_askers, .ref p_asker, .ref p_st, .ref p_images, .ref p_isKept, .long d_trace, .ref p_text, .int d_texted, .int d_cursor, .int d_start, .int d_token, .int d_number, .long d_word, .int d_isWrong, .int d_saidDishes, .ref p_saidMount, .int d_saidSpeakers, .ref p_saidSpeaker, .int d_saidNoises, .ref p_saidNoise, .int d_saidAskers, .ref p_saidAsker, .ref p_room, .int d_couldBe, .int d_couldHere])), (p_images, .inl (cI, 208, .inl d_images)), (p_isKept, .inl (cZ, 2, .inl d_isKept)), (p_st, .inl (cI, 104, .inl d_st_25))] → va_S A s.heap H locs → ∀ ls : Array Slot, lv_has ls 3 [(0, .ref p_this), (1, .int x1), (2, .int x2_25)] → f_X6_back_L25 f_X6_back_X54 x1 d_images n9_25 x2_25 d_st_25 = some out → W p l e ({ frames := 1, cells := 0, slots := 0, locals := 22 } : Room) s m ([.ref p_this, .int x1] : List Value).toArray below meth c H locs 0 0 Q (F0 m 25 ls []) := by
        intro n9_25
        induction n9_25 with
        | zero =>
          intro x2_25 d_st_25 H locs hP hD hS ls hl hrun
          rw [f_X6_back_L25] at hrun
          cases hrun
        | succ n9_25 ih25 =>
          intro x2_25 d_st_25 H locs hP hD hS ls hl hrun
          rw [f_X6_back_L25] at hrun
          refine lv_iload_n hx hb dX6_back_25 rfl (lv_at hl 2 rfl) ?_
          refine lv_bipush (v := 104) hx hb dX6_back_26 (by decide) ?_
          refine lv_icmp_ge (tgt := 54) hx hb dX6_back_28 (by decide) (fun c_28 => ?_) (fun c_28 => ?_)
          · rw [if_pos c_28] at hrun
            exact X54 d_st_25 H locs hP hD hS ls (lv_sub hl [0] rfl) hrun
          · rw [if_neg c_28] at hrun
            refine lv_aload_n hx hb dX6_back_31 rfl (lv_at hl 0 rfl) ?_
            refine va_get (D := (dC, dI)) (ci := 6) (v := .ref p_st) (C := RX6) (T := TX6) (N := 30) hx hb hts iwX6 hown hK hP 0 rfl rfl 7 (by decide) (hts (.fieldLink RX6 19 "SkyListenersModel" "st" "[I") (by decide +kernel)) (fun _ h9 => h9) rfl dX6_back_32 ?_
            refine lv_iload_n hx hb dX6_back_35 rfl (lv_at hl 2 rfl) ?_
            refine lv_aload_n hx hb dX6_back_36 rfl (lv_at hl 0 rfl) ?_
            refine va_get (D := (dC, dI)) (ci := 6) (v := .ref p_images) (C := RX6) (T := TX6) (N := 30) hx hb hts iwX6 hown hK hP 0 rfl rfl 8 (by decide) (hts (.fieldLink RX6 22 "SkyListenersModel" "images" "[I") (by decide +kernel)) (fun _ h9 => h9) rfl dX6_back_37 ?_
            refine lv_bipush (v := 104) hx hb dX6_back_40 (by decide) ?_
            refine lv_iload_n hx hb dX6_back_42 rfl (lv_at hl 1 rfl) ?_
            refine lv_imul hx hb dX6_back_43 ?_
            refine lv_iload_n hx hb dX6_back_44 rfl (lv_at hl 2 rfl) ?_
            refine lv_iadd hx hb dX6_back_45 ?_
            rcases Classical.em (((104 * x1) + x2_25) < 0 ∨ 208 ≤ ((104 * x1) + x2_25).toNatClampNeg) with g_46 | g_46
            · rw [if_pos g_46] at hrun; cases hrun
            rw [if_neg g_46] at hrun
            refine va_iald hx hb hK hP 1 0 rfl rfl g_46 dX6_back_46 ?_
            rcases Classical.em (x2_25 < 0 ∨ 104 ≤ x2_25.toNatClampNeg) with g_47 | g_47
            · rw [if_pos g_47] at hrun; cases hrun
            rw [if_neg g_47] at hrun
            refine va_iast hx hb hK hP hD hS 3 0 rfl rfl g_47 dX6_back_47 (fun H locs hP hD hS => ?_)
            have hP : va_P (dC, dI) vwCl [(p_this, .inr (6, [.int d_dishes, .int d_speakers, .ref p_speaker, .int d_noises, .ref p_noise, .int d_askers, .ref p_asker, .ref p_st, .ref p_images, .ref p_isKept, .long d_trace, .ref p_text, .int d_texted, .int d_cursor, .int d_start, .int d_token, .int d_number, .long d_word, .int d_isWrong, .int d_saidDishes, .ref p_saidMount, .int d_saidSpeakers, .ref p_saidSpeaker, .int d_saidNoises, .ref p_saidNoise, .int d_saidAskers, .ref p_saidAsker, .ref p_room, .int d_couldBe, .int d_couldHere])), (p_images, .inl (cI, 208, .inl d_images)), (p_isKept, .inl (cZ, 2, .inl d_isKept)), (p_st, .inl (cI, 104, .inl (upd d_st_25 x2_25.toNatClampNeg (d_images ((104 * x1) + x2_25).toNatClampNeg))))] H := hP
            have hD : va_D A [(p_this, .inr (6, [.int d_dishes, .int d_speakers, .ref p_speaker, .int d_noises, .ref p_noise, .int d_askers, .ref p_asker, .ref p_st, .ref p_images, .ref p_isKept, .long d_trace, .ref p_text, .int d_texted, .int d_cursor, .int d_start, .int d_token, .int d_number, .long d_word, .int d_isWrong, .int d_saidDishes, .ref p_saidMount, .int d_saidSpeakers, .ref p_saidSpeaker, .int d_saidNoises, .ref p_saidNoise, .int d_saidAskers, .ref p_saidAsker, .ref p_room, .int d_couldBe, .int d_couldHere])), (p_images, .inl (cI, 208, .inl d_images)), (p_isKept, .inl (cZ, 2, .inl d_isKept)), (p_st, .inl (cI, 104, .inl (upd d_st_25 x2_25.toNatClampNeg (d_images ((104 * x1) + x2_25).toNatClampNeg))))] := hD
            refine lv_iinc (v := x2_25 + 1) (lv' := [(2, .int (x2_25 + 1)), (0, .ref p_this), (1, .int x1)]) hx hb dX6_back_48 hl (k := 2) rfl rfl (by decide) rfl (fun ls hl => ?_)
            refine lv_goto (tgt := 25) hx hb dX6_back_51 (by decide) ?_
            exact ih25 (x2_25 + 1) (upd d_st_25 x2_25.toNatClampNeg (d_images ((104 * x1) + x2_25).toNatClampNeg)) H locs hP hD hS ls (lv_sub hl [1, 2, 0] rfl) hrun
      exact L25 FU 0 d_st H locs hP hD hS ls (lv_sub hl [1, 2, 0] rfl) hrun
    · rw [if_pos c_17] at hrun
      refine lv_bipush (v := (-2)) hx hb dX6_back_20 (by decide) ?_
      have hrun := Option.some.inj hrun
      subst hrun
      rw [hQ]
      exact W.iret (v := (-2)) hx hb hr (fun t ht hW => ⟨⟨(-2), (), rfl, rfl, by rw [ht]; exact hP, hD⟩, hS.F ht⟩) hS.2.2 dX6_back_22
  · rw [if_pos c_6] at hrun
    refine lv_iconst (v := (-1)) hx hb dX6_back_9 (by decide) ?_
    have hrun := Option.some.inj hrun
    subst hrun
    rw [hQ]
    exact W.iret (v := (-1)) hx hb hr (fun t ht hW => ⟨⟨(-1), (), rfl, rfl, by rw [ht]; exact hP, hD⟩, hS.F ht⟩) hS.2.2 dX6_back_10
-- SkyListenersModel.count
def f_X6_count (d_dishes : Int32) (d_speakers : Int32) (d_noises : Int32) (d_askers : Int32) (d_texted : Int32) (d_st : Nat → Int32) (x1 : Int32) : Int32 := (if x1 = 0 then (d_dishes) else (if x1 = 1 then (d_speakers) else (if x1 = 2 then (d_noises) else (if x1 = 3 then (d_askers) else (if x1 = 4 then (d_st (Int32.toNatClampNeg 0)) else (if x1 = 5 then (d_st (Int32.toNatClampNeg 1)) else (if x1 = 6 then (d_st (Int32.toNatClampNeg 2)) else (if x1 = 7 then (d_texted) else ((-1))))))))))
set_option maxHeartbeats 4000000 in
set_option maxRecDepth 100000 in
theorem c_X6_count (l : Launch) (dC : Nat → ClassId) (dI : Nat → Nat → Nat) (cI cZ : ClassId) (sz : Nat) (p_asker p_images p_isKept p_noise p_room p_saidAsker p_saidMount p_saidNoise p_saidSpeaker p_speaker p_st p_text p_this : Nat) (d_dishes : Int32) (d_speakers : Int32) (d_noises : Int32) (d_askers : Int32) (d_trace : Int64) (d_texted : Int32) (d_cursor : Int32) (d_start : Int32) (d_token : Int32) (d_number : Int32) (d_word : Int64) (d_isWrong : Int32) (d_saidDishes : Int32) (d_saidSpeakers : Int32) (d_saidNoises : Int32) (d_saidAskers : Int32) (d_couldBe : Int32) (d_couldHere : Int32) (d_st : Nat → Int32) (x1 : Int32) (out : Int32) (hrun : f_X6_count d_dishes d_speakers d_noises d_askers d_texted d_st x1 = out) : Met l yX6_count wsX6_count ({ frames := 0, cells := 0, slots := 0, locals := 0 } : Room) (va_Pc [.ref p_this, .int x1] (PC dC dI cI cZ sz ([(p_this, .inr (6, [.int d_dishes, .int d_speakers, .ref p_speaker, .int d_noises, .ref p_noise, .int d_askers, .ref p_asker, .ref p_st, .ref p_images, .ref p_isKept, .long d_trace, .ref p_text, .int d_texted, .int d_cursor, .int d_start, .int d_token, .int d_number, .long d_word, .int d_isWrong, .int d_saidDishes, .ref p_saidMount, .int d_saidSpeakers, .ref p_saidSpeaker, .int d_saidNoises, .ref p_saidNoise, .int d_saidAskers, .ref p_saidAsker, .ref p_room, .int d_couldBe, .int d_couldHere])), (p_st, .inl (cI, 104, .inl d_st))] : va_W))) (va_Qi (fun r (_ : Unit) => r = out) (fun _ t => va_P (dC, dI) vwCl [(p_this, .inr (6, [.int d_dishes, .int d_speakers, .ref p_speaker, .int d_noises, .ref p_noise, .int d_askers, .ref p_asker, .ref p_st, .ref p_images, .ref p_isKept, .long d_trace, .ref p_text, .int d_texted, .int d_cursor, .int d_start, .int d_token, .int d_number, .long d_word, .int d_isWrong, .int d_saidDishes, .ref p_saidMount, .int d_saidSpeakers, .ref p_saidSpeaker, .int d_saidNoises, .ref p_saidNoise, .int d_saidAskers, .ref p_saidAsker, .ref p_room, .int d_couldBe, .int d_couldHere])), (p_st, .inl (cI, 104, .inl d_st))] t.heap ∧ va_D (va_A ([(p_this, .inr (6, [.int d_dishes, .int d_speakers, .ref p_speaker, .int d_noises, .ref p_noise, .int d_askers, .ref p_asker, .ref p_st, .ref p_images, .ref p_isKept, .long d_trace, .ref p_text, .int d_texted, .int d_cursor, .int d_start, .int d_token, .int d_number, .long d_word, .int d_isWrong, .int d_saidDishes, .ref p_saidMount, .int d_saidSpeakers, .ref p_saidSpeaker, .int d_saidNoises, .ref p_saidNoise, .int d_saidAskers, .ref p_saidAsker, .ref p_room, .int d_couldBe, .int d_couldHere])), (p_st, .inl (cI, 104, .inl d_st))] : va_W) sz) [(p_this, .inr (6, [.int d_dishes, .int d_speakers, .ref p_speaker, .int d_noises, .ref p_noise, .int d_askers, .ref p_asker, .ref p_st, .ref p_images, .ref p_isKept, .long d_trace, .ref p_text, .int d_texted, .int d_cursor, .int d_start, .int d_token, .int d_number, .long d_word, .int d_isWrong, .int d_saidDishes, .ref p_saidMount, .int d_saidSpeakers, .ref p_saidSpeaker, .int d_saidNoises, .ref p_saidNoise, .int d_saidAskers, .ref p_saidAsker, .ref p_room, .int d_couldBe, .int d_couldHere])), (p_st, .inl (cI, 104, .inl d_st))]) (va_A ([(p_this, .inr (6, [.int d_dishes, .int d_speakers, .ref p_speaker, .int d_noises, .ref p_noise, .int d_askers, .ref p_asker, .ref p_st, .ref p_images, .ref p_isKept, .long d_trace, .ref p_text, .int d_texted, .int d_cursor, .int d_start, .int d_token, .int d_number, .long d_word, .int d_isWrong, .int d_saidDishes, .ref p_saidMount, .int d_saidSpeakers, .ref p_saidSpeaker, .int d_saidNoises, .ref p_saidNoise, .int d_saidAskers, .ref p_saidAsker, .ref p_room, .int d_couldBe, .int d_couldHere])), (p_st, .inl (cI, 104, .inl d_st))] : va_W) sz)) 0 0 (va_A ([(p_this, .inr (6, [.int d_dishes, .int d_speakers, .ref p_speaker, .int d_noises, .ref p_noise, .int d_askers, .ref p_asker, .ref p_st, .ref p_images, .ref p_isKept, .long d_trace, .ref p_text, .int d_texted, .int d_cursor, .int d_start, .int d_token, .int d_number, .long d_word, .int d_isWrong, .int d_saidDishes, .ref p_saidMount, .int d_saidSpeakers, .ref p_saidSpeaker, .int d_saidNoises, .ref p_saidNoise, .int d_saidAskers, .ref p_saidAsker, .ref p_room, .int d_couldBe, .int d_couldHere])), (p_st, .inl (cI, 104, .inl d_st))] : va_W) sz) := by
  refine Met.ofW (cc := cX6_count) (maxL := 2) (ret := (some .int)) (by decide) rfl ?_
  intro p e s m args below meth c s₁ B hml hv
  obtain ⟨rfl, hsz, hP, hK, hD0, hN⟩ := hv
  have hx := B.exec
  have hb := B.bytes
  have hr := B.returns
  have hts := atoms_spec (ws := wsX6_count) B.pre
  have hown : s.vm.findClass RX6 = some m.cls := findClass_of_methodNamed B.named
  have hlocks := B.notSynchronized
  subst hsz
  have hD := hD0.self (sz := s.heap.size)
  generalize hAe : va_A ([(p_this, .inr (6, [.int d_dishes, .int d_speakers, .ref p_speaker, .int d_noises, .ref p_noise, .int d_askers, .ref p_asker, .ref p_st, .ref p_images, .ref p_isKept, .long d_trace, .ref p_text, .int d_texted, .int d_cursor, .int d_start, .int d_token, .int d_number, .long d_word, .int d_isWrong, .int d_saidDishes, .ref p_saidMount, .int d_saidSpeakers, .ref p_saidSpeaker, .int d_saidNoises, .ref p_saidNoise, .int d_saidAskers, .ref p_saidAsker, .ref p_room, .int d_couldBe, .int d_couldHere])), (p_st, .inl (cI, 104, .inl d_st))] : va_W) s.heap.size = A at hD ⊢
  have hA : ∀ q : Nat, s.heap.size ≤ q → A q := fun q h => by rw [← hAe]; exact Or.inr h
  have hS : va_S A s.heap s.heap [] := va_S.rf
  refine W_abs (fun Q hQ => ?_)
  have hl := lv_entry ([.ref p_this, .int x1]) (n := 2) (Nat.le_of_ble_eq_true rfl)
  rw [lg_entry_eq]
  generalize (lg_sl ([.ref p_this, .int x1]) ++ List.replicate (2 - (lg_sl ([.ref p_this, .int x1])).length) Slot.unset).toArray = ls at hl ⊢
  have hl : lv_has ls 2 [(0, .ref p_this), (1, .int x1)] := hl
  rw [f_X6_count] at hrun
  refine W_start (ws := [(p_this, .inr (6, [.int d_dishes, .int d_speakers, .ref p_speaker, .int d_noises, .ref p_noise, .int d_askers, .ref p_asker, .ref p_st, .ref p_images, .ref p_isKept, .long d_trace, .ref p_text, .int d_texted, .int d_cursor, .int d_start, .int d_token, .int d_number, .long d_word, .int d_isWrong, .int d_saidDishes, .ref p_saidMount, .int d_saidSpeakers, .ref p_saidSpeaker, .int d_saidNoises, .ref p_saidNoise, .int d_saidAskers, .ref p_saidAsker, .ref p_room, .int d_couldBe, .int d_couldHere])), (p_st, .inl (cI, 104, .inl d_st))]) hP hS (fun H locs hP hS => ?_)
  have iwX6 : ∀ w ∈ wsX60, w ∈ wsX6_count := by decide +kernel
  refine lv_iload_n hx hb dX6_count_0 rfl (lv_at hl 1 rfl) ?_
  by_cases c_1_0 : x1 = 0
  · rw [if_pos c_1_0] at hrun
    refine lv_tableIn (tgt := 48) (off := 47) hx hb dX6_count_1 (by rw [c_1_0]; decide) (by rw [c_1_0]; decide) (by rw [c_1_0]; decide) (by decide) ?_
    refine lv_aload_n hx hb dX6_count_48 rfl (lv_at hl 0 rfl) ?_
    refine va_get (D := (dC, dI)) (ci := 6) (v := .int d_dishes) (C := RX6) (T := TX6) (N := 30) hx hb hts iwX6 hown hK hP 0 rfl rfl 0 (by decide) (hts (.fieldLink RX6 47 "SkyListenersModel" "dishes" "I") (by decide +kernel)) (fun _ h9 => h9) rfl dX6_count_49 ?_
    have hrun := hrun
    subst hrun
    rw [hQ]
    exact W.iret (v := d_dishes) hx hb hr (fun t ht hW => ⟨⟨d_dishes, (), rfl, rfl, by rw [ht]; exact hP, hD⟩, hS.F ht⟩) hS.2.2 dX6_count_52
  rw [if_neg c_1_0] at hrun
  by_cases c_1_1 : x1 = 1
  · rw [if_pos c_1_1] at hrun
    refine lv_tableIn (tgt := 53) (off := 52) hx hb dX6_count_1 (by rw [c_1_1]; decide) (by rw [c_1_1]; decide) (by rw [c_1_1]; decide) (by decide) ?_
    refine lv_aload_n hx hb dX6_count_53 rfl (lv_at hl 0 rfl) ?_
    refine va_get (D := (dC, dI)) (ci := 6) (v := .int d_speakers) (C := RX6) (T := TX6) (N := 30) hx hb hts iwX6 hown hK hP 0 rfl rfl 1 (by decide) (hts (.fieldLink RX6 133 "SkyListenersModel" "speakers" "I") (by decide +kernel)) (fun _ h9 => h9) rfl dX6_count_54 ?_
    have hrun := hrun
    subst hrun
    rw [hQ]
    exact W.iret (v := d_speakers) hx hb hr (fun t ht hW => ⟨⟨d_speakers, (), rfl, rfl, by rw [ht]; exact hP, hD⟩, hS.F ht⟩) hS.2.2 dX6_count_57
  rw [if_neg c_1_1] at hrun
  by_cases c_1_2 : x1 = 2
  · rw [if_pos c_1_2] at hrun
    refine lv_tableIn (tgt := 58) (off := 57) hx hb dX6_count_1 (by rw [c_1_2]; decide) (by rw [c_1_2]; decide) (by rw [c_1_2]; decide) (by decide) ?_
    refine lv_aload_n hx hb dX6_count_58 rfl (lv_at hl 0 rfl) ?_
    refine va_get (D := (dC, dI)) (ci := 6) (v := .int d_noises) (C := RX6) (T := TX6) (N := 30) hx hb hts iwX6 hown hK hP 0 rfl rfl 3 (by decide) (hts (.fieldLink RX6 136 "SkyListenersModel" "noises" "I") (by decide +kernel)) (fun _ h9 => h9) rfl dX6_count_59 ?_
    have hrun := hrun
    subst hrun
    rw [hQ]
    exact W.iret (v := d_noises) hx hb hr (fun t ht hW => ⟨⟨d_noises, (), rfl, rfl, by rw [ht]; exact hP, hD⟩, hS.F ht⟩) hS.2.2 dX6_count_62
  rw [if_neg c_1_2] at hrun
  by_cases c_1_3 : x1 = 3
  · rw [if_pos c_1_3] at hrun
    refine lv_tableIn (tgt := 63) (off := 62) hx hb dX6_count_1 (by rw [c_1_3]; decide) (by rw [c_1_3]; decide) (by rw [c_1_3]; decide) (by decide) ?_
    refine lv_aload_n hx hb dX6_count_63 rfl (lv_at hl 0 rfl) ?_
    refine va_get (D := (dC, dI)) (ci := 6) (v := .int d_askers) (C := RX6) (T := TX6) (N := 30) hx hb hts iwX6 hown hK hP 0 rfl rfl 5 (by decide) (hts (.fieldLink RX6 55 "SkyListenersModel" "askers" "I") (by decide +kernel)) (fun _ h9 => h9) rfl dX6_count_64 ?_
    have hrun := hrun
    subst hrun
    rw [hQ]
    exact W.iret (v := d_askers) hx hb hr (fun t ht hW => ⟨⟨d_askers, (), rfl, rfl, by rw [ht]; exact hP, hD⟩, hS.F ht⟩) hS.2.2 dX6_count_67
  rw [if_neg c_1_3] at hrun
  by_cases c_1_4 : x1 = 4
  · rw [if_pos c_1_4] at hrun
    refine lv_tableIn (tgt := 68) (off := 67) hx hb dX6_count_1 (by rw [c_1_4]; decide) (by rw [c_1_4]; decide) (by rw [c_1_4]; decide) (by decide) ?_
    refine lv_aload_n hx hb dX6_count_68 rfl (lv_at hl 0 rfl) ?_
    refine va_get (D := (dC, dI)) (ci := 6) (v := .ref p_st) (C := RX6) (T := TX6) (N := 30) hx hb hts iwX6 hown hK hP 0 rfl rfl 7 (by decide) (hts (.fieldLink RX6 19 "SkyListenersModel" "st" "[I") (by decide +kernel)) (fun _ h9 => h9) rfl dX6_count_69 ?_
    refine lv_iconst (v := 0) hx hb dX6_count_72 (by decide) ?_
    refine va_iald hx hb hK hP 1 0 rfl rfl (vp_lit (by decide) (by decide)) dX6_count_73 ?_
    have hrun := hrun
    subst hrun
    rw [hQ]
    exact W.iret (v := d_st (Int32.toNatClampNeg 0)) hx hb hr (fun t ht hW => ⟨⟨d_st (Int32.toNatClampNeg 0), (), rfl, rfl, by rw [ht]; exact hP, hD⟩, hS.F ht⟩) hS.2.2 dX6_count_74
  rw [if_neg c_1_4] at hrun
  by_cases c_1_5 : x1 = 5
  · rw [if_pos c_1_5] at hrun
    refine lv_tableIn (tgt := 75) (off := 74) hx hb dX6_count_1 (by rw [c_1_5]; decide) (by rw [c_1_5]; decide) (by rw [c_1_5]; decide) (by decide) ?_
    refine lv_aload_n hx hb dX6_count_75 rfl (lv_at hl 0 rfl) ?_
    refine va_get (D := (dC, dI)) (ci := 6) (v := .ref p_st) (C := RX6) (T := TX6) (N := 30) hx hb hts iwX6 hown hK hP 0 rfl rfl 7 (by decide) (hts (.fieldLink RX6 19 "SkyListenersModel" "st" "[I") (by decide +kernel)) (fun _ h9 => h9) rfl dX6_count_76 ?_
    refine lv_iconst (v := 1) hx hb dX6_count_79 (by decide) ?_
    refine va_iald hx hb hK hP 1 0 rfl rfl (vp_lit (by decide) (by decide)) dX6_count_80 ?_
    have hrun := hrun
    subst hrun
    rw [hQ]
    exact W.iret (v := d_st (Int32.toNatClampNeg 1)) hx hb hr (fun t ht hW => ⟨⟨d_st (Int32.toNatClampNeg 1), (), rfl, rfl, by rw [ht]; exact hP, hD⟩, hS.F ht⟩) hS.2.2 dX6_count_81
  rw [if_neg c_1_5] at hrun
  by_cases c_1_6 : x1 = 6
  · rw [if_pos c_1_6] at hrun
    refine lv_tableIn (tgt := 82) (off := 81) hx hb dX6_count_1 (by rw [c_1_6]; decide) (by rw [c_1_6]; decide) (by rw [c_1_6]; decide) (by decide) ?_
    refine lv_aload_n hx hb dX6_count_82 rfl (lv_at hl 0 rfl) ?_
    refine va_get (D := (dC, dI)) (ci := 6) (v := .ref p_st) (C := RX6) (T := TX6) (N := 30) hx hb hts iwX6 hown hK hP 0 rfl rfl 7 (by decide) (hts (.fieldLink RX6 19 "SkyListenersModel" "st" "[I") (by decide +kernel)) (fun _ h9 => h9) rfl dX6_count_83 ?_
    refine lv_iconst (v := 2) hx hb dX6_count_86 (by decide) ?_
    refine va_iald hx hb hK hP 1 0 rfl rfl (vp_lit (by decide) (by decide)) dX6_count_87 ?_
    have hrun := hrun
    subst hrun
    rw [hQ]
    exact W.iret (v := d_st (Int32.toNatClampNeg 2)) hx hb hr (fun t ht hW => ⟨⟨d_st (Int32.toNatClampNeg 2), (), rfl, rfl, by rw [ht]; exact hP, hD⟩, hS.F ht⟩) hS.2.2 dX6_count_88
  rw [if_neg c_1_6] at hrun
  by_cases c_1_7 : x1 = 7
  · rw [if_pos c_1_7] at hrun
    refine lv_tableIn (tgt := 89) (off := 88) hx hb dX6_count_1 (by rw [c_1_7]; decide) (by rw [c_1_7]; decide) (by rw [c_1_7]; decide) (by decide) ?_
    refine lv_aload_n hx hb dX6_count_89 rfl (lv_at hl 0 rfl) ?_
    refine va_get (D := (dC, dI)) (ci := 6) (v := .int d_texted) (C := RX6) (T := TX6) (N := 30) hx hb hts iwX6 hown hK hP 0 rfl rfl 12 (by decide) (hts (.fieldLink RX6 58 "SkyListenersModel" "texted" "I") (by decide +kernel)) (fun _ h9 => h9) rfl dX6_count_90 ?_
    have hrun := hrun
    subst hrun
    rw [hQ]
    exact W.iret (v := d_texted) hx hb hr (fun t ht hW => ⟨⟨d_texted, (), rfl, rfl, by rw [ht]; exact hP, hD⟩, hS.F ht⟩) hS.2.2 dX6_count_93
  rw [if_neg c_1_7] at hrun
  refine lv_tableOut (tgt := 94) hx hb dX6_count_1 (tab_out7 c_1_0 c_1_1 c_1_2 c_1_3 c_1_4 c_1_5 c_1_6 c_1_7) (by decide) ?_
  refine lv_iconst (v := (-1)) hx hb dX6_count_94 (by decide) ?_
  have hrun := hrun
  subst hrun
  rw [hQ]
  exact W.iret (v := (-1)) hx hb hr (fun t ht hW => ⟨⟨(-1), (), rfl, rfl, by rw [ht]; exact hP, hD⟩, hS.F ht⟩) hS.2.2 dX6_count_95
-- SkyListenersModel.trace
def f_X6_trace (d_trace : Int64) : Int64 := (d_trace)
set_option maxHeartbeats 4000000 in
set_option maxRecDepth 100000 in
theorem c_X6_trace (l : Launch) (dC : Nat → ClassId) (dI : Nat → Nat → Nat) (cI cZ : ClassId) (sz : Nat) (p_asker p_images p_isKept p_noise p_room p_saidAsker p_saidMount p_saidNoise p_saidSpeaker p_speaker p_st p_text p_this : Nat) (d_dishes : Int32) (d_speakers : Int32) (d_noises : Int32) (d_askers : Int32) (d_trace : Int64) (d_texted : Int32) (d_cursor : Int32) (d_start : Int32) (d_token : Int32) (d_number : Int32) (d_word : Int64) (d_isWrong : Int32) (d_saidDishes : Int32) (d_saidSpeakers : Int32) (d_saidNoises : Int32) (d_saidAskers : Int32) (d_couldBe : Int32) (d_couldHere : Int32) (out : Int64) (hrun : f_X6_trace d_trace = out) : Met l yX6_trace wsX6_trace ({ frames := 0, cells := 0, slots := 0, locals := 0 } : Room) (va_Pc [.ref p_this] (PC dC dI cI cZ sz ([(p_this, .inr (6, [.int d_dishes, .int d_speakers, .ref p_speaker, .int d_noises, .ref p_noise, .int d_askers, .ref p_asker, .ref p_st, .ref p_images, .ref p_isKept, .long d_trace, .ref p_text, .int d_texted, .int d_cursor, .int d_start, .int d_token, .int d_number, .long d_word, .int d_isWrong, .int d_saidDishes, .ref p_saidMount, .int d_saidSpeakers, .ref p_saidSpeaker, .int d_saidNoises, .ref p_saidNoise, .int d_saidAskers, .ref p_saidAsker, .ref p_room, .int d_couldBe, .int d_couldHere]))] : va_W))) (va_Ql (fun r (_ : Unit) => r = out) (fun _ t => va_P (dC, dI) vwCl [(p_this, .inr (6, [.int d_dishes, .int d_speakers, .ref p_speaker, .int d_noises, .ref p_noise, .int d_askers, .ref p_asker, .ref p_st, .ref p_images, .ref p_isKept, .long d_trace, .ref p_text, .int d_texted, .int d_cursor, .int d_start, .int d_token, .int d_number, .long d_word, .int d_isWrong, .int d_saidDishes, .ref p_saidMount, .int d_saidSpeakers, .ref p_saidSpeaker, .int d_saidNoises, .ref p_saidNoise, .int d_saidAskers, .ref p_saidAsker, .ref p_room, .int d_couldBe, .int d_couldHere]))] t.heap ∧ va_D (va_A ([(p_this, .inr (6, [.int d_dishes, .int d_speakers, .ref p_speaker, .int d_noises, .ref p_noise, .int d_askers, .ref p_asker, .ref p_st, .ref p_images, .ref p_isKept, .long d_trace, .ref p_text, .int d_texted, .int d_cursor, .int d_start, .int d_token, .int d_number, .long d_word, .int d_isWrong, .int d_saidDishes, .ref p_saidMount, .int d_saidSpeakers, .ref p_saidSpeaker, .int d_saidNoises, .ref p_saidNoise, .int d_saidAskers, .ref p_saidAsker, .ref p_room, .int d_couldBe, .int d_couldHere]))] : va_W) sz) [(p_this, .inr (6, [.int d_dishes, .int d_speakers, .ref p_speaker, .int d_noises, .ref p_noise, .int d_askers, .ref p_asker, .ref p_st, .ref p_images, .ref p_isKept, .long d_trace, .ref p_text, .int d_texted, .int d_cursor, .int d_start, .int d_token, .int d_number, .long d_word, .int d_isWrong, .int d_saidDishes, .ref p_saidMount, .int d_saidSpeakers, .ref p_saidSpeaker, .int d_saidNoises, .ref p_saidNoise, .int d_saidAskers, .ref p_saidAsker, .ref p_room, .int d_couldBe, .int d_couldHere]))]) (va_A ([(p_this, .inr (6, [.int d_dishes, .int d_speakers, .ref p_speaker, .int d_noises, .ref p_noise, .int d_askers, .ref p_asker, .ref p_st, .ref p_images, .ref p_isKept, .long d_trace, .ref p_text, .int d_texted, .int d_cursor, .int d_start, .int d_token, .int d_number, .long d_word, .int d_isWrong, .int d_saidDishes, .ref p_saidMount, .int d_saidSpeakers, .ref p_saidSpeaker, .int d_saidNoises, .ref p_saidNoise, .int d_saidAskers, .ref p_saidAsker, .ref p_room, .int d_couldBe, .int d_couldHere]))] : va_W) sz)) 0 0 (va_A ([(p_this, .inr (6, [.int d_dishes, .int d_speakers, .ref p_speaker, .int d_noises, .ref p_noise, .int d_askers, .ref p_asker, .ref p_st, .ref p_images, .ref p_isKept, .long d_trace, .ref p_text, .int d_texted, .int d_cursor, .int d_start, .int d_token, .int d_number, .long d_word, .int d_isWrong, .int d_saidDishes, .ref p_saidMount, .int d_saidSpeakers, .ref p_saidSpeaker, .int d_saidNoises, .ref p_saidNoise, .int d_saidAskers, .ref p_saidAsker, .ref p_room, .int d_couldBe, .int d_couldHere]))] : va_W) sz) := by
  refine Met.ofW (cc := cX6_trace) (maxL := 1) (ret := (some .long)) (by decide) rfl ?_
  intro p e s m args below meth c s₁ B hml hv
  obtain ⟨rfl, hsz, hP, hK, hD0, hN⟩ := hv
  have hx := B.exec
  have hb := B.bytes
  have hr := B.returns
  have hts := atoms_spec (ws := wsX6_trace) B.pre
  have hown : s.vm.findClass RX6 = some m.cls := findClass_of_methodNamed B.named
  have hlocks := B.notSynchronized
  subst hsz
  have hD := hD0.self (sz := s.heap.size)
  generalize hAe : va_A ([(p_this, .inr (6, [.int d_dishes, .int d_speakers, .ref p_speaker, .int d_noises, .ref p_noise, .int d_askers, .ref p_asker, .ref p_st, .ref p_images, .ref p_isKept, .long d_trace, .ref p_text, .int d_texted, .int d_cursor, .int d_start, .int d_token, .int d_number, .long d_word, .int d_isWrong, .int d_saidDishes, .ref p_saidMount, .int d_saidSpeakers, .ref p_saidSpeaker, .int d_saidNoises, .ref p_saidNoise, .int d_saidAskers, .ref p_saidAsker, .ref p_room, .int d_couldBe, .int d_couldHere]))] : va_W) s.heap.size = A at hD ⊢
  have hA : ∀ q : Nat, s.heap.size ≤ q → A q := fun q h => by rw [← hAe]; exact Or.inr h
  have hS : va_S A s.heap s.heap [] := va_S.rf
  refine W_abs (fun Q hQ => ?_)
  have hl := lv_entry ([.ref p_this]) (n := 1) (Nat.le_of_ble_eq_true rfl)
  rw [lg_entry_eq]
  generalize (lg_sl ([.ref p_this]) ++ List.replicate (1 - (lg_sl ([.ref p_this])).length) Slot.unset).toArray = ls at hl ⊢
  have hl : lv_has ls 1 [(0, .ref p_this)] := hl
  rw [f_X6_trace] at hrun
  refine W_start (ws := [(p_this, .inr (6, [.int d_dishes, .int d_speakers, .ref p_speaker, .int d_noises, .ref p_noise, .int d_askers, .ref p_asker, .ref p_st, .ref p_images, .ref p_isKept, .long d_trace, .ref p_text, .int d_texted, .int d_cursor, .int d_start, .int d_token, .int d_number, .long d_word, .int d_isWrong, .int d_saidDishes, .ref p_saidMount, .int d_saidSpeakers, .ref p_saidSpeaker, .int d_saidNoises, .ref p_saidNoise, .int d_saidAskers, .ref p_saidAsker, .ref p_room, .int d_couldBe, .int d_couldHere]))]) hP hS (fun H locs hP hS => ?_)
  have iwX6 : ∀ w ∈ wsX60, w ∈ wsX6_trace := by decide +kernel
  refine lv_aload_n hx hb dX6_trace_0 rfl (lv_at hl 0 rfl) ?_
  refine va_get (D := (dC, dI)) (ci := 6) (v := .long d_trace) (C := RX6) (T := TX6) (N := 30) hx hb hts iwX6 hown hK hP 0 rfl rfl 10 (by decide) (hts (.fieldLink RX6 207 "SkyListenersModel" "trace" "J") (by decide +kernel)) (fun _ h9 => h9) rfl dX6_trace_1 ?_
  have hrun := hrun
  subst hrun
  rw [hQ]
  exact W.lret (v := d_trace) hx hb hr (fun t ht hW => ⟨⟨d_trace, (), rfl, rfl, by rw [ht]; exact hP, hD⟩, hS.F ht⟩) hS.2.2 dX6_trace_4
