-- SkyListenersModel.mayBeOurs
def f_X6_mayBeOurs_J60 (K6 : Int32 → Int32 → Option (Int32)) (x1 : Int32) (x2 : Int32) (x3 : Int32) (x5 : Int32) (d_st : Nat → Int32) (t0 : Int32) : Option (Int32) := (K6 t0 (x5 + 1))
def f_X6_mayBeOurs_J49 (K60 : Int32 → Option (Int32)) (x1 : Int32) (x2 : Int32) (x3 : Int32) (x5 : Int32) (t1 : Int32) (t2 : Int32) (d_st : Nat → Int32) (t3 : Int32) : Option (Int32) := ((f_X6_isSo d_st t1 t2 t3).bind fun q49 => (if q49 = 0 then (K60 0) else (K60 1)))
def f_X6_mayBeOurs_L6 (x1 : Int32) (x2 : Int32) (x3 : Int32) (d_st : Nat → Int32) : Nat → Int32 → Int32 → Option (Int32)
  | 0, _, _ => none
  | n9 + 1, x4, x5 => (if (d_st (Int32.toNatClampNeg 1)) ≤ x5 then (if x4 = 0 ∨ x4 = 1 then (some x4) else none) else (if x4 = 0 then (f_X6_mayBeOurs_J60 (f_X6_mayBeOurs_L6  x1 x2 x3 d_st n9) x1 x2 x3 x5 d_st 0) else (if (44 + (4 * x5)) < 0 ∨ 104 ≤ (44 + (4 * x5)).toNatClampNeg then none else (if x2 = 0 then none else (if ((d_st (44 + (4 * x5)).toNatClampNeg) - (d_st (44 + (4 * x5)).toNatClampNeg) / x2 * x2) = x3 then (f_X6_mayBeOurs_J49 (f_X6_mayBeOurs_J60 (f_X6_mayBeOurs_L6  x1 x2 x3 d_st n9) x1 x2 x3 x5 d_st) x1 x2 x3 x5 x5 x1 d_st 1) else (f_X6_mayBeOurs_J49 (f_X6_mayBeOurs_J60 (f_X6_mayBeOurs_L6  x1 x2 x3 d_st n9) x1 x2 x3 x5 d_st) x1 x2 x3 x5 x5 x1 d_st 0))))))
def f_X6_mayBeOurs (d_st : Nat → Int32) (x1 : Int32) (x2 : Int32) (x3 : Int32) : Option (Int32) := (f_X6_mayBeOurs_L6 x1 x2 x3 d_st FU 1 0)
set_option maxHeartbeats 4000000 in
set_option maxRecDepth 100000 in
theorem c_X6_mayBeOurs (l : Launch) (dC : Nat → ClassId) (dI : Nat → Nat → Nat) (cI cZ : ClassId) (sz : Nat) (p_asker p_images p_isKept p_noise p_room p_saidAsker p_saidMount p_saidNoise p_saidSpeaker p_speaker p_st p_text p_this : Nat) (d_dishes : Int32) (d_speakers : Int32) (d_noises : Int32) (d_askers : Int32) (d_trace : Int64) (d_texted : Int32) (d_cursor : Int32) (d_start : Int32) (d_token : Int32) (d_number : Int32) (d_word : Int64) (d_isWrong : Int32) (d_saidDishes : Int32) (d_saidSpeakers : Int32) (d_saidNoises : Int32) (d_saidAskers : Int32) (d_couldBe : Int32) (d_couldHere : Int32) (d_st : Nat → Int32) (x1 : Int32) (x2 : Int32) (x3 : Int32) (out : Int32) (hrun : f_X6_mayBeOurs d_st x1 x2 x3 = some out) : Met l yX6_mayBeOurs wsX6_mayBeOurs ({ frames := 1, cells := 0, slots := 0, locals := 24 } : Room) (va_Pc [.ref p_this, .int x1, .int x2, .int x3] (PC dC dI cI cZ sz ([(p_this, .inr (6, [.int d_dishes, .int d_speakers, .ref p_speaker, .int d_noises, .ref p_noise, .int d_askers, .ref p_asker, .ref p_st, .ref p_images, .ref p_isKept, .long d_trace, .ref p_text, .int d_texted, .int d_cursor, .int d_start, .int d_token, .int d_number, .long d_word, .int d_isWrong, .int d_saidDishes, .ref p_saidMount, .int d_saidSpeakers, .ref p_saidSpeaker, .int d_saidNoises, .ref p_saidNoise, .int d_saidAskers, .ref p_saidAsker, .ref p_room, .int d_couldBe, .int d_couldHere])), (p_st, .inl (cI, 104, .inl d_st))] : va_W))) (va_Qi (fun r (_ : Unit) => r = out) (fun _ t => va_P (dC, dI) vwCl [(p_this, .inr (6, [.int d_dishes, .int d_speakers, .ref p_speaker, .int d_noises, .ref p_noise, .int d_askers, .ref p_asker, .ref p_st, .ref p_images, .ref p_isKept, .long d_trace, .ref p_text, .int d_texted, .int d_cursor, .int d_start, .int d_token, .int d_number, .long d_word, .int d_isWrong, .int d_saidDishes, .ref p_saidMount, .int d_saidSpeakers, .ref p_saidSpeaker, .int d_saidNoises, .ref p_saidNoise, .int d_saidAskers, .ref p_saidAsker, .ref p_room, .int d_couldBe, .int d_couldHere])), (p_st, .inl (cI, 104, .inl d_st))] t.heap ∧ va_D (va_A ([(p_this, .inr (6, [.int d_dishes, .int d_speakers, .ref p_speaker, .int d_noises, .ref p_noise, .int d_askers, .ref p_asker, .ref p_st, .ref p_images, .ref p_isKept, .long d_trace, .ref p_text, .int d_texted, .int d_cursor, .int d_start, .int d_token, .int d_number, .long d_word, .int d_isWrong, .int d_saidDishes, .ref p_saidMount, .int d_saidSpeakers, .ref p_saidSpeaker, .int d_saidNoises, .ref p_saidNoise, .int d_saidAskers, .ref p_saidAsker, .ref p_room, .int d_couldBe, .int d_couldHere])), (p_st, .inl (cI, 104, .inl d_st))] : va_W) sz) [(p_this, .inr (6, [.int d_dishes, .int d_speakers, .ref p_speaker, .int d_noises, .ref p_noise, .int d_askers, .ref p_asker, .ref p_st, .ref p_images, .ref p_isKept, .long d_trace, .ref p_text, .int d_texted, .int d_cursor, .int d_start, .int d_token, .int d_number, .long d_word, .int d_isWrong, .int d_saidDishes, .ref p_saidMount, .int d_saidSpeakers, .ref p_saidSpeaker, .int d_saidNoises, .ref p_saidNoise, .int d_saidAskers, .ref p_saidAsker, .ref p_room, .int d_couldBe, .int d_couldHere])), (p_st, .inl (cI, 104, .inl d_st))]) (va_A ([(p_this, .inr (6, [.int d_dishes, .int d_speakers, .ref p_speaker, .int d_noises, .ref p_noise, .int d_askers, .ref p_asker, .ref p_st, .ref p_images, .ref p_isKept, .long d_trace, .ref p_text, .int d_texted, .int d_cursor, .int d_start, .int d_token, .int d_number, .long d_word, .int d_isWrong, .int d_saidDishes, .ref p_saidMount, .int d_saidSpeakers, .ref p_saidSpeaker, .int d_saidNoises, .ref p_saidNoise, .int d_saidAskers, .ref p_saidAsker, .ref p_room, .int d_couldBe, .int d_couldHere])), (p_st, .inl (cI, 104, .inl d_st))] : va_W) sz)) 0 0 (va_A ([(p_this, .inr (6, [.int d_dishes, .int d_speakers, .ref p_speaker, .int d_noises, .ref p_noise, .int d_askers, .ref p_asker, .ref p_st, .ref p_images, .ref p_isKept, .long d_trace, .ref p_text, .int d_texted, .int d_cursor, .int d_start, .int d_token, .int d_number, .long d_word, .int d_isWrong, .int d_saidDishes, .ref p_saidMount, .int d_saidSpeakers, .ref p_saidSpeaker, .int d_saidNoises, .ref p_saidNoise, .int d_saidAskers, .ref p_saidAsker, .ref p_room, .int d_couldBe, .int d_couldHere])), (p_st, .inl (cI, 104, .inl d_st))] : va_W) sz) := by
  refine Met.ofW (cc := cX6_mayBeOurs) (maxL := 6) (ret := (some .boolean)) (by decide) rfl ?_
  intro p e s m args below meth c s₁ B hml hv
  obtain ⟨rfl, hsz, hP, hK, hD0, hN⟩ := hv
  have hx := B.exec
  have hb := B.bytes
  have hr := B.returns
  have hts := atoms_spec (ws := wsX6_mayBeOurs) B.pre
  have hown : s.vm.findClass RX6 = some m.cls := findClass_of_methodNamed B.named
  have hlocks := B.notSynchronized
  subst hsz
  have hD := hD0.self (sz := s.heap.size)
  generalize hAe : va_A ([(p_this, .inr (6, [.int d_dishes, .int d_speakers, .ref p_speaker, .int d_noises, .ref p_noise, .int d_askers, .ref p_asker, .ref p_st, .ref p_images, .ref p_isKept, .long d_trace, .ref p_text, .int d_texted, .int d_cursor, .int d_start, .int d_token, .int d_number, .long d_word, .int d_isWrong, .int d_saidDishes, .ref p_saidMount, .int d_saidSpeakers, .ref p_saidSpeaker, .int d_saidNoises, .ref p_saidNoise, .int d_saidAskers, .ref p_saidAsker, .ref p_room, .int d_couldBe, .int d_couldHere])), (p_st, .inl (cI, 104, .inl d_st))] : va_W) s.heap.size = A at hD ⊢
  have hA : ∀ q : Nat, s.heap.size ≤ q → A q := fun q h => by rw [← hAe]; exact Or.inr h
  have hS : va_S A s.heap s.heap [] := va_S.rf
  refine W_abs (fun Q hQ => ?_)
  have hl := lv_entry ([.ref p_this, .int x1, .int x2, .int x3]) (n := 6) (Nat.le_of_ble_eq_true rfl)
  rw [lg_entry_eq]
  generalize (lg_sl ([.ref p_this, .int x1, .int x2, .int x3]) ++ List.replicate (6 - (lg_sl ([.ref p_this, .int x1, .int x2, .int x3])).length) Slot.unset).toArray = ls at hl ⊢
  have hl : lv_has ls 6 [(0, .ref p_this), (1, .int x1), (2, .int x2), (3, .int x3)] := hl
  rw [f_X6_mayBeOurs] at hrun
  refine W_start (ws := [(p_this, .inr (6, [.int d_dishes, .int d_speakers, .ref p_speaker, .int d_noises, .ref p_noise, .int d_askers, .ref p_asker, .ref p_st, .ref p_images, .ref p_isKept, .long d_trace, .ref p_text, .int d_texted, .int d_cursor, .int d_start, .int d_token, .int d_number, .long d_word, .int d_isWrong, .int d_saidDishes, .ref p_saidMount, .int d_saidSpeakers, .ref p_saidSpeaker, .int d_saidNoises, .ref p_saidNoise, .int d_saidAskers, .ref p_saidAsker, .ref p_room, .int d_couldBe, .int d_couldHere])), (p_st, .inl (cI, 104, .inl d_st))]) hP hS (fun H locs hP hS => ?_)
  have iwX6 : ∀ w ∈ wsX60, w ∈ wsX6_mayBeOurs := by decide +kernel
  refine lv_iconst (v := 1) hx hb dX6_mayBeOurs_0 (by decide) ?_
  refine lv_istore (lv' := [(4, .int 1), (0, .ref p_this), (1, .int x1), (2, .int x2), (3, .int x3)]) hx hb dX6_mayBeOurs_1 hl (by decide) rfl (fun ls hl => ?_)
  refine lv_iconst (v := 0) hx hb dX6_mayBeOurs_3 (by decide) ?_
  refine lv_istore (lv' := [(5, .int 0), (4, .int 1), (0, .ref p_this), (1, .int x1), (2, .int x2), (3, .int x3)]) hx hb dX6_mayBeOurs_4 hl (by decide) rfl (fun ls hl => ?_)
  have L6 : ∀ (n9_6 : Nat) (x4_6 : Int32) (x5_6 : Int32) (H : Heap) (locs : List Loc), va_P (dC, dI) vwCl [(p_this, .inr (6, [.int d_dishes, .int d_speakers, .ref p_speaker, .int d_noises, .ref p_noise, .int d_askers, .ref p_asker, .ref p_st, .ref p_images, .ref p_isKept, .long d_trace, .ref p_text, .int d_texted, .int d_cursor, .int d_start, .int d_token, .int d_number, .long d_word, .int d_isWrong, .int d_saidDishes, .ref p_saidMount, .int d_saidSpeakers, .ref p_saidSpeaker, .int d_saidNoises, .ref p_saidNoise, .int d_saidAskers, .ref p_saidAsker, .ref p_room, .int d_couldBe, .int d_couldHere])), (p_st, .inl (cI, 104, .inl d_st))] H → va_D A [(p_this, .inr (6, [.int d_dishes, .int d_speakers, .ref p_speaker, .int d_noises, .ref p_noise, .int d_askers, .ref p_asker, .ref p_st, .ref p_images, .ref p_isKept, .long d_trace, .ref p_text, .int d_texted, .int d_cursor, .int d_start, .int d_token, .int d_number, .long d_word, .int d_isWrong, .int d_saidDishes, .ref p_saidMount, .int d_saidSpeakers, .ref p_saidSpeaker, .int d_saidNoises, .ref p_saidNoise, .int d_saidAskers, .ref p_saidAsker, .ref p_room, .int d_couldBe, .int d_couldHere])), (p_st, .inl (cI, 104, .inl d_st))] → va_S A s.heap H locs → ∀ ls : Array Slot, lv_has ls 6 [(0, .ref p_this), (1, .int x1), (2, .int x2), (3, .int x3), (4, .int x4_6), (5, .int x5_6)] → f_X6_mayBeOurs_L6 x1 x2 x3 d_st n9_6 x4_6 x5_6 = some out → W p l e ({ frames := 1, cells := 0, slots := 0, locals := 24 } : Room) s m ([.ref p_this, .int x1, .int x2, .int x3] : List Value).toArray below meth c H locs 0 0 Q (F0 m 6 ls []) := by
    intro n9_6
    induction n9_6 with
    | zero =>
      intro x4_6 x5_6 H locs hP hD hS ls hl hrun
      rw [f_X6_mayBeOurs_L6] at hrun
      cases hrun
    | succ n9_6 ih6 =>
      intro x4_6 x5_6 H locs hP hD hS ls hl hrun
      rw [f_X6_mayBeOurs_L6] at hrun
      refine lv_iload hx hb dX6_mayBeOurs_6 (lv_at hl 5 rfl) ?_
      refine lv_aload_n hx hb dX6_mayBeOurs_8 rfl (lv_at hl 0 rfl) ?_
      refine va_get (D := (dC, dI)) (ci := 6) (v := .ref p_st) (C := RX6) (T := TX6) (N := 30) hx hb hts iwX6 hown hK hP 0 rfl rfl 7 (by decide) (hts (.fieldLink RX6 19 "SkyListenersModel" "st" "[I") (by decide +kernel)) (fun _ h9 => h9) rfl dX6_mayBeOurs_9 ?_
      refine lv_iconst (v := 1) hx hb dX6_mayBeOurs_12 (by decide) ?_
      refine va_iald hx hb hK hP 1 0 rfl rfl (vp_lit (by decide) (by decide)) dX6_mayBeOurs_13 ?_
      refine lv_icmp_ge (tgt := 68) hx hb dX6_mayBeOurs_14 (by decide) (fun c_14 => ?_) (fun c_14 => ?_)
      · rw [if_pos c_14] at hrun
        refine lv_iload hx hb dX6_mayBeOurs_68 (lv_at hl 4 rfl) ?_
        rcases Classical.em (¬ (x4_6 = 0 ∨ x4_6 = 1)) with g_70 | g_70
        · rw [if_neg g_70] at hrun; cases hrun
        have g_70 := Classical.not_not.mp g_70
        rw [if_pos g_70] at hrun
        have hrun := Option.some.inj hrun
        subst hrun
        rw [hQ]
        exact W.zret (v := x4_6) (ty := .boolean) hx hb hr (nar_b g_70) (fun t ht hW => ⟨⟨x4_6, (), rfl, rfl, by rw [ht]; exact hP, hD⟩, hS.F ht⟩) hS.2.2 dX6_mayBeOurs_70
      · rw [if_neg c_14] at hrun
        refine lv_iload hx hb dX6_mayBeOurs_17 (lv_at hl 4 rfl) ?_
        have J60 : ∀ (t0_60 : Int32) (H : Heap) (locs : List Loc), va_P (dC, dI) vwCl [(p_this, .inr (6, [.int d_dishes, .int d_speakers, .ref p_speaker, .int d_noises, .ref p_noise, .int d_askers, .ref p_asker, .ref p_st, .ref p_images, .ref p_isKept, .long d_trace, .ref p_text, .int d_texted, .int d_cursor, .int d_start, .int d_token, .int d_number, .long d_word, .int d_isWrong, .int d_saidDishes, .ref p_saidMount, .int d_saidSpeakers, .ref p_saidSpeaker, .int d_saidNoises, .ref p_saidNoise, .int d_saidAskers, .ref p_saidAsker, .ref p_room, .int d_couldBe, .int d_couldHere])), (p_st, .inl (cI, 104, .inl d_st))] H → va_D A [(p_this, .inr (6, [.int d_dishes, .int d_speakers, .ref p_speaker, .int d_noises, .ref p_noise, .int d_askers, .ref p_asker, .ref p_st, .ref p_images, .ref p_isKept, .long d_trace, .ref p_text, .int d_texted, .int d_cursor, .int d_start, .int d_token, .int d_number, .long d_word, .int d_isWrong, .int d_saidDishes, .ref p_saidMount, .int d_saidSpeakers, .ref p_saidSpeaker, .int d_saidNoises, .ref p_saidNoise, .int d_saidAskers, .ref p_saidAsker, .ref p_room, .int d_couldBe, .int d_couldHere])), (p_st, .inl (cI, 104, .inl d_st))] → va_S A s.heap H locs → ∀ ls : Array Slot, lv_has ls 6 [(0, .ref p_this), (1, .int x1), (2, .int x2), (3, .int x3), (5, .int x5_6)] → f_X6_mayBeOurs_J60 (f_X6_mayBeOurs_L6 x1 x2 x3 d_st n9_6) x1 x2 x3 x5_6 d_st t0_60 = some out → W p l e ({ frames := 1, cells := 0, slots := 0, locals := 24 } : Room) s m ([.ref p_this, .int x1, .int x2, .int x3] : List Value).toArray below meth c H locs 0 0 Q (F0 m 60 ls [.int t0_60]) := by
          intro t0_60 H locs hP hD hS ls hl hrun
          rw [f_X6_mayBeOurs_J60] at hrun
          refine lv_istore (lv' := [(4, .int t0_60), (0, .ref p_this), (1, .int x1), (2, .int x2), (3, .int x3), (5, .int x5_6)]) hx hb dX6_mayBeOurs_60 hl (by decide) rfl (fun ls hl => ?_)
          refine lv_iinc (v := x5_6 + 1) (lv' := [(5, .int (x5_6 + 1)), (4, .int t0_60), (0, .ref p_this), (1, .int x1), (2, .int x2), (3, .int x3)]) hx hb dX6_mayBeOurs_62 hl (k := 5) rfl rfl (by decide) rfl (fun ls hl => ?_)
          refine lv_goto (tgt := 6) hx hb dX6_mayBeOurs_65 (by decide) ?_
          exact ih6 t0_60 (x5_6 + 1) H locs hP hD hS ls (lv_sub hl [2, 3, 4, 5, 1, 0] rfl) hrun
        refine lv_if_eq (tgt := 59) hx hb dX6_mayBeOurs_19 (by decide) (fun c_19 => ?_) (fun c_19 => ?_)
        · rw [if_pos c_19] at hrun
          refine lv_iconst (v := 0) hx hb dX6_mayBeOurs_59 (by decide) ?_
          exact J60 0 H locs hP hD hS ls (lv_sub hl [0, 1, 2, 3, 5] rfl) hrun
        · rw [if_neg c_19] at hrun
          refine lv_aload_n hx hb dX6_mayBeOurs_22 rfl (lv_at hl 0 rfl) ?_
          refine lv_iload hx hb dX6_mayBeOurs_23 (lv_at hl 5 rfl) ?_
          refine lv_iload_n hx hb dX6_mayBeOurs_25 rfl (lv_at hl 1 rfl) ?_
          refine lv_aload_n hx hb dX6_mayBeOurs_26 rfl (lv_at hl 0 rfl) ?_
          refine va_get (D := (dC, dI)) (ci := 6) (v := .ref p_st) (C := RX6) (T := TX6) (N := 30) hx hb hts iwX6 hown hK hP 0 rfl rfl 7 (by decide) (hts (.fieldLink RX6 19 "SkyListenersModel" "st" "[I") (by decide +kernel)) (fun _ h9 => h9) rfl dX6_mayBeOurs_27 ?_
          refine lv_bipush (v := 44) hx hb dX6_mayBeOurs_30 (by decide) ?_
          refine lv_iconst (v := 4) hx hb dX6_mayBeOurs_32 (by decide) ?_
          refine lv_iload hx hb dX6_mayBeOurs_33 (lv_at hl 5 rfl) ?_
          refine lv_imul hx hb dX6_mayBeOurs_35 ?_
          refine lv_iadd hx hb dX6_mayBeOurs_36 ?_
          rcases Classical.em ((44 + (4 * x5_6)) < 0 ∨ 104 ≤ (44 + (4 * x5_6)).toNatClampNeg) with g_37 | g_37
          · rw [if_pos g_37] at hrun; cases hrun
          rw [if_neg g_37] at hrun
          refine va_iald hx hb hK hP 1 0 rfl rfl g_37 dX6_mayBeOurs_37 ?_
          refine lv_iload_n hx hb dX6_mayBeOurs_38 rfl (lv_at hl 2 rfl) ?_
          rcases Classical.em (x2 = 0) with g_39 | g_39
          · rw [if_pos g_39] at hrun; cases hrun
          rw [if_neg g_39] at hrun
          refine lv_irem hx hb dX6_mayBeOurs_39 g_39 ?_
          refine lv_iload_n hx hb dX6_mayBeOurs_40 rfl (lv_at hl 3 rfl) ?_
          have J49 : ∀ (t3_49 : Int32) (H : Heap) (locs : List Loc), va_P (dC, dI) vwCl [(p_this, .inr (6, [.int d_dishes, .int d_speakers, .ref p_speaker, .int d_noises, .ref p_noise, .int d_askers, .ref p_asker, .ref p_st, .ref p_images, .ref p_isKept, .long d_trace, .ref p_text, .int d_texted, .int d_cursor, .int d_start, .int d_token, .int d_number, .long d_word, .int d_isWrong, .int d_saidDishes, .ref p_saidMount, .int d_saidSpeakers, .ref p_saidSpeaker, .int d_saidNoises, .ref p_saidNoise, .int d_saidAskers, .ref p_saidAsker, .ref p_room, .int d_couldBe, .int d_couldHere])), (p_st, .inl (cI, 104, .inl d_st))] H → va_D A [(p_this, .inr (6, [.int d_dishes, .int d_speakers, .ref p_speaker, .int d_noises, .ref p_noise, .int d_askers, .ref p_asker, .ref p_st, .ref p_images, .ref p_isKept, .long d_trace, .ref p_text, .int d_texted, .int d_cursor, .int d_start, .int d_token, .int d_number, .long d_word, .int d_isWrong, .int d_saidDishes, .ref p_saidMount, .int d_saidSpeakers, .ref p_saidSpeaker, .int d_saidNoises, .ref p_saidNoise, .int d_saidAskers, .ref p_saidAsker, .ref p_room, .int d_couldBe, .int d_couldHere])), (p_st, .inl (cI, 104, .inl d_st))] → va_S A s.heap H locs → ∀ ls : Array Slot, lv_has ls 6 [(0, .ref p_this), (1, .int x1), (2, .int x2), (3, .int x3), (5, .int x5_6)] → f_X6_mayBeOurs_J49 (f_X6_mayBeOurs_J60 (f_X6_mayBeOurs_L6 x1 x2 x3 d_st n9_6) x1 x2 x3 x5_6 d_st) x1 x2 x3 x5_6 x5_6 x1 d_st t3_49 = some out → W p l e ({ frames := 1, cells := 0, slots := 0, locals := 24 } : Room) s m ([.ref p_this, .int x1, .int x2, .int x3] : List Value).toArray below meth c H locs 0 0 Q (F0 m 49 ls [.int t3_49, .int x1, .int x5_6, .ref p_this]) := by
            intro t3_49 H locs hP hD hS ls hl hrun
            rw [f_X6_mayBeOurs_J49] at hrun
            obtain ⟨q49, hq49, hrun⟩ := bind_out hrun
            have hPc : va_P (dC, dI) vwCl [(p_this, .inr (6, [.int d_dishes, .int d_speakers, .ref p_speaker, .int d_noises, .ref p_noise, .int d_askers, .ref p_asker, .ref p_st, .ref p_images, .ref p_isKept, .long d_trace, .ref p_text, .int d_texted, .int d_cursor, .int d_start, .int d_token, .int d_number, .long d_word, .int d_isWrong, .int d_saidDishes, .ref p_saidMount, .int d_saidSpeakers, .ref p_saidSpeaker, .int d_saidNoises, .ref p_saidNoise, .int d_saidAskers, .ref p_saidAsker, .ref p_room, .int d_couldBe, .int d_couldHere])), (p_st, .inl (cI, 104, .inl d_st))] H := hP.sub [0, 1] rfl
            have hDc : va_D A [(p_this, .inr (6, [.int d_dishes, .int d_speakers, .ref p_speaker, .int d_noises, .ref p_noise, .int d_askers, .ref p_asker, .ref p_st, .ref p_images, .ref p_isKept, .long d_trace, .ref p_text, .int d_texted, .int d_cursor, .int d_start, .int d_token, .int d_number, .long d_word, .int d_isWrong, .int d_saidDishes, .ref p_saidMount, .int d_saidSpeakers, .ref p_saidSpeaker, .int d_saidNoises, .ref p_saidNoise, .int d_saidAskers, .ref p_saidAsker, .ref p_room, .int d_couldBe, .int d_couldHere])), (p_st, .inl (cI, 104, .inl d_st))] := hD.sub [0, 1] (by decide) rfl
            have hFc := va_free (wc := [(p_this, .inr (6, [.int d_dishes, .int d_speakers, .ref p_speaker, .int d_noises, .ref p_noise, .int d_askers, .ref p_asker, .ref p_st, .ref p_images, .ref p_isKept, .long d_trace, .ref p_text, .int d_texted, .int d_cursor, .int d_start, .int d_token, .int d_number, .long d_word, .int d_isWrong, .int d_saidDishes, .ref p_saidMount, .int d_saidSpeakers, .ref p_saidSpeaker, .int d_saidNoises, .ref p_saidNoise, .int d_saidAskers, .ref p_saidAsker, .ref p_room, .int d_couldBe, .int d_couldHere])), (p_st, .inl (cI, 104, .inl d_st))]) hD hS hA [0, 1] rfl
            refine va_calli (va_runV (As := [.int x5_6, .int x1, .int t3_49]) (rest := []) ⟨hx, hb, hml, hown, hts⟩ (c_X6_isSo l dC dI cI cZ H.size p_asker p_images p_isKept p_noise p_room p_saidAsker p_saidMount p_saidNoise p_saidSpeaker p_speaker p_st p_text p_this d_dishes d_speakers d_noises d_askers d_trace d_texted d_cursor d_start d_token d_number d_word d_isWrong d_saidDishes d_saidSpeakers d_saidNoises d_saidAskers d_couldBe d_couldHere d_st x5_6 x1 t3_49 q49 hq49) (cwV 3 hts gX6_mayBeOurs_X6_isSo rfl rfl rfl (by decide +kernel) ⟨Nat.le_of_ble_eq_true rfl, Nat.le_of_ble_eq_true rfl⟩) ⟨fun a U g mk q => ⟨q.1, PC.mv q.2⟩, va_recv hK hP (ci := 6) (q0 := 0) rfl rfl, fun U hU hW => ⟨rfl, PC.of hU hW hPc hK hDc hN⟩⟩ rfl rfl hl.1 rfl (lv_room (Nat.le_of_ble_eq_true rfl)) dX6_mayBeOurs_49 ⟨Nat.zero_le _, Nat.zero_le _⟩) hS (fun q _ h => hFc q h) hFc (fun r_49 u t H1 locs ht hvm hw hB hz1 hk1 hS => ?_)
            obtain ⟨hP1, hD1⟩ := hB
            try dsimp only at hw
            rw [hw]
            rw [ht] at hP1
            have hP : va_P (dC, dI) vwCl [(p_this, .inr (6, [.int d_dishes, .int d_speakers, .ref p_speaker, .int d_noises, .ref p_noise, .int d_askers, .ref p_asker, .ref p_st, .ref p_images, .ref p_isKept, .long d_trace, .ref p_text, .int d_texted, .int d_cursor, .int d_start, .int d_token, .int d_number, .long d_word, .int d_isWrong, .int d_saidDishes, .ref p_saidMount, .int d_saidSpeakers, .ref p_saidSpeaker, .int d_saidNoises, .ref p_saidNoise, .int d_saidAskers, .ref p_saidAsker, .ref p_room, .int d_couldBe, .int d_couldHere])), (p_st, .inl (cI, 104, .inl d_st))] H1 := join_ro hP hD [0, 1] rfl hk1 hP1
            clear hPc hDc hFc hk1 hz1 hP1 hD1 ht hvm
            generalize H1 = H at hP hS ⊢
            refine lv_if_eq (tgt := 59) hx hb dX6_mayBeOurs_52 (by decide) (fun c_52 => ?_) (fun c_52 => ?_)
            · rw [if_pos c_52] at hrun
              refine lv_iconst (v := 0) hx hb dX6_mayBeOurs_59 (by decide) ?_
              exact J60 0 H locs hP hD hS ls hl hrun
            · rw [if_neg c_52] at hrun
              refine lv_iconst (v := 1) hx hb dX6_mayBeOurs_55 (by decide) ?_
              refine lv_goto (tgt := 60) hx hb dX6_mayBeOurs_56 (by decide) ?_
              exact J60 1 H locs hP hD hS ls hl hrun
          refine lv_icmp_ne (tgt := 48) hx hb dX6_mayBeOurs_41 (by decide) (fun c_41 => ?_) (fun c_41 => ?_)
          · rw [if_neg c_41] at hrun
            refine lv_iconst (v := 0) hx hb dX6_mayBeOurs_48 (by decide) ?_
            exact J49 0 H locs hP hD hS ls (lv_sub hl [0, 1, 2, 3, 5] rfl) hrun
          · rw [if_pos c_41] at hrun
            refine lv_iconst (v := 1) hx hb dX6_mayBeOurs_44 (by decide) ?_
            refine lv_goto (tgt := 49) hx hb dX6_mayBeOurs_45 (by decide) ?_
            exact J49 1 H locs hP hD hS ls (lv_sub hl [0, 1, 2, 3, 5] rfl) hrun
  exact L6 FU 1 0 H locs hP hD hS ls (lv_sub hl [2, 3, 4, 5, 1, 0] rfl) hrun
-- SkyListenersModel.ours
def f_X6_ours_X104 (x2 : Int32) (x3 : Int32) (x4 : Int32) : Option (Int32) := (if x2 = 0 then (some x3) else (if x3 = 0 then (some (-9)) else (if x2 = 1 then (some (x4 / 12)) else (some (x4 - x4 / 12 * 12)))))
def f_X6_ours_X98 (K27 : Int32 → Int32 → Int32 → Option (Int32)) (x1 : Int32) (x2 : Int32) (x5 : Int32) (d_st : Nat → Int32) (x3 : Int32) (x4 : Int32) : Option (Int32) := (K27 x3 x4 (x5 + 1))
def f_X6_ours_J90 (K37 : Int32 → Int32 → Int32 → Option (Int32)) (x1 : Int32) (x2 : Int32) (x4 : Int32) (x5 : Int32) (x6 : Int32) (t0 : Int32) (d_st : Nat → Int32) (t1 : Int32) : Option (Int32) := (K37 (t0 + t1) x4 (x6 + 1))
def f_X6_ours_J75 (K37 : Int32 → Int32 → Int32 → Option (Int32)) (x1 : Int32) (x2 : Int32) (x3 : Int32) (x4 : Int32) (x5 : Int32) (x6 : Int32) (x7 : Int32) (d_st : Nat → Int32) : Option (Int32) := (if x7 = 0 then (f_X6_ours_J90 K37 x1 x2 x4 x5 x6 x3 d_st 0) else (f_X6_ours_J90 K37 x1 x2 x4 x5 x6 x3 d_st 1))
def f_X6_ours_J77 (K37 : Int32 → Int32 → Int32 → Option (Int32)) (x1 : Int32) (x2 : Int32) (x3 : Int32) (x5 : Int32) (x6 : Int32) (x7 : Int32) (d_st : Nat → Int32) (t0 : Int32) : Option (Int32) := (if x7 = 0 then (f_X6_ours_J90 K37 x1 x2 t0 x5 x6 x3 d_st 0) else (f_X6_ours_J90 K37 x1 x2 t0 x5 x6 x3 d_st 1))
def f_X6_ours_L37 (K98 : Int32 → Int32 → Option (Int32)) (x1 : Int32) (x2 : Int32) (x5 : Int32) (d_st : Nat → Int32) : Nat → Int32 → Int32 → Int32 → Option (Int32)
  | 0, _, _, _ => none
  | n9 + 1, x3, x4, x6 => (if x5 ≤ x6 then (K98 x3 x4) else ((f_X6_mayBeOurs d_st x1 x5 x6).bind fun q50 => (if q50 = 0 then (f_X6_ours_J75 (f_X6_ours_L37 K98 x1 x2 x5 d_st n9) x1 x2 x3 x4 x5 x6 q50 d_st) else (if x3 = 0 then (f_X6_ours_J77 (f_X6_ours_L37 K98 x1 x2 x5 d_st n9) x1 x2 x3 x5 x6 q50 d_st ((12 * x5) + x6)) else (f_X6_ours_J75 (f_X6_ours_L37 K98 x1 x2 x5 d_st n9) x1 x2 x3 x4 x5 x6 q50 d_st)))))
def f_X6_ours_L27 (K104 : Int32 → Int32 → Option (Int32)) (x1 : Int32) (x2 : Int32) (d_st : Nat → Int32) : Nat → Int32 → Int32 → Int32 → Option (Int32)
  | 0, _, _, _ => none
  | n9 + 1, x3, x4, x5 => (if 12 < x5 then (K104 x3 x4) else (f_X6_ours_L37 (f_X6_ours_X98 (f_X6_ours_L27 K104 x1 x2 d_st n9) x1 x2 x5 d_st) x1 x2 x5 d_st FU x3 x4 0))
def f_X6_ours (d_st : Nat → Int32) (x1 : Int32) (x2 : Int32) : Option (Int32) := (if (f_X6_isNote x1) = 0 then (some (-1)) else (if (f_X6_in x2 0 2) = 0 then (some (-1)) else (f_X6_ours_L27 (f_X6_ours_X104 x2) x1 x2 d_st FU 0 (-9) 1)))
set_option maxHeartbeats 4000000 in
set_option maxRecDepth 100000 in
theorem c_X6_ours (l : Launch) (dC : Nat → ClassId) (dI : Nat → Nat → Nat) (cI cZ : ClassId) (sz : Nat) (p_asker p_images p_isKept p_noise p_room p_saidAsker p_saidMount p_saidNoise p_saidSpeaker p_speaker p_st p_text p_this : Nat) (d_dishes : Int32) (d_speakers : Int32) (d_noises : Int32) (d_askers : Int32) (d_trace : Int64) (d_texted : Int32) (d_cursor : Int32) (d_start : Int32) (d_token : Int32) (d_number : Int32) (d_word : Int64) (d_isWrong : Int32) (d_saidDishes : Int32) (d_saidSpeakers : Int32) (d_saidNoises : Int32) (d_saidAskers : Int32) (d_couldBe : Int32) (d_couldHere : Int32) (d_st : Nat → Int32) (x1 : Int32) (x2 : Int32) (out : Int32) (hrun : f_X6_ours d_st x1 x2 = some out) : Met l yX6_ours wsX6_ours ({ frames := 2, cells := 0, slots := 0, locals := 49 } : Room) (va_Pc [.ref p_this, .int x1, .int x2] (PC dC dI cI cZ sz ([(p_this, .inr (6, [.int d_dishes, .int d_speakers, .ref p_speaker, .int d_noises, .ref p_noise, .int d_askers, .ref p_asker, .ref p_st, .ref p_images, .ref p_isKept, .long d_trace, .ref p_text, .int d_texted, .int d_cursor, .int d_start, .int d_token, .int d_number, .long d_word, .int d_isWrong, .int d_saidDishes, .ref p_saidMount, .int d_saidSpeakers, .ref p_saidSpeaker, .int d_saidNoises, .ref p_saidNoise, .int d_saidAskers, .ref p_saidAsker, .ref p_room, .int d_couldBe, .int d_couldHere])), (p_st, .inl (cI, 104, .inl d_st))] : va_W))) (va_Qi (fun r (_ : Unit) => r = out) (fun _ t => va_P (dC, dI) vwCl [(p_this, .inr (6, [.int d_dishes, .int d_speakers, .ref p_speaker, .int d_noises, .ref p_noise, .int d_askers, .ref p_asker, .ref p_st, .ref p_images, .ref p_isKept, .long d_trace, .ref p_text, .int d_texted, .int d_cursor, .int d_start, .int d_token, .int d_number, .long d_word, .int d_isWrong, .int d_saidDishes, .ref p_saidMount, .int d_saidSpeakers, .ref p_saidSpeaker, .int d_saidNoises, .ref p_saidNoise, .int d_saidAskers, .ref p_saidAsker, .ref p_room, .int d_couldBe, .int d_couldHere])), (p_st, .inl (cI, 104, .inl d_st))] t.heap ∧ va_D (va_A ([(p_this, .inr (6, [.int d_dishes, .int d_speakers, .ref p_speaker, .int d_noises, .ref p_noise, .int d_askers, .ref p_asker, .ref p_st, .ref p_images, .ref p_isKept, .long d_trace, .ref p_text, .int d_texted, .int d_cursor, .int d_start, .int d_token, .int d_number, .long d_word, .int d_isWrong, .int d_saidDishes, .ref p_saidMount, .int d_saidSpeakers, .ref p_saidSpeaker, .int d_saidNoises, .ref p_saidNoise, .int d_saidAskers, .ref p_saidAsker, .ref p_room, .int d_couldBe, .int d_couldHere])), (p_st, .inl (cI, 104, .inl d_st))] : va_W) sz) [(p_this, .inr (6, [.int d_dishes, .int d_speakers, .ref p_speaker, .int d_noises, .ref p_noise, .int d_askers, .ref p_asker, .ref p_st, .ref p_images, .ref p_isKept, .long d_trace, .ref p_text, .int d_texted, .int d_cursor, .int d_start, .int d_token, .int d_number, .long d_word, .int d_isWrong, .int d_saidDishes, .ref p_saidMount, .int d_saidSpeakers, .ref p_saidSpeaker, .int d_saidNoises, .ref p_saidNoise, .int d_saidAskers, .ref p_saidAsker, .ref p_room, .int d_couldBe, .int d_couldHere])), (p_st, .inl (cI, 104, .inl d_st))]) (va_A ([(p_this, .inr (6, [.int d_dishes, .int d_speakers, .ref p_speaker, .int d_noises, .ref p_noise, .int d_askers, .ref p_asker, .ref p_st, .ref p_images, .ref p_isKept, .long d_trace, .ref p_text, .int d_texted, .int d_cursor, .int d_start, .int d_token, .int d_number, .long d_word, .int d_isWrong, .int d_saidDishes, .ref p_saidMount, .int d_saidSpeakers, .ref p_saidSpeaker, .int d_saidNoises, .ref p_saidNoise, .int d_saidAskers, .ref p_saidAsker, .ref p_room, .int d_couldBe, .int d_couldHere])), (p_st, .inl (cI, 104, .inl d_st))] : va_W) sz)) 0 0 (va_A ([(p_this, .inr (6, [.int d_dishes, .int d_speakers, .ref p_speaker, .int d_noises, .ref p_noise, .int d_askers, .ref p_asker, .ref p_st, .ref p_images, .ref p_isKept, .long d_trace, .ref p_text, .int d_texted, .int d_cursor, .int d_start, .int d_token, .int d_number, .long d_word, .int d_isWrong, .int d_saidDishes, .ref p_saidMount, .int d_saidSpeakers, .ref p_saidSpeaker, .int d_saidNoises, .ref p_saidNoise, .int d_saidAskers, .ref p_saidAsker, .ref p_room, .int d_couldBe, .int d_couldHere])), (p_st, .inl (cI, 104, .inl d_st))] : va_W) sz) := by
  refine Met.ofW (cc := cX6_ours) (maxL := 8) (ret := (some .int)) (by decide) rfl ?_
  intro p e s m args below meth c s₁ B hml hv
  obtain ⟨rfl, hsz, hP, hK, hD0, hN⟩ := hv
  have hx := B.exec
  have hb := B.bytes
  have hr := B.returns
  have hts := atoms_spec (ws := wsX6_ours) B.pre
  have hown : s.vm.findClass RX6 = some m.cls := findClass_of_methodNamed B.named
  have hlocks := B.notSynchronized
  subst hsz
  have hD := hD0.self (sz := s.heap.size)
  generalize hAe : va_A ([(p_this, .inr (6, [.int d_dishes, .int d_speakers, .ref p_speaker, .int d_noises, .ref p_noise, .int d_askers, .ref p_asker, .ref p_st, .ref p_images, .ref p_isKept, .long d_trace, .ref p_text, .int d_texted, .int d_cursor, .int d_start, .int d_token, .int d_number, .long d_word, .int d_isWrong, .int d_saidDishes, .ref p_saidMount, .int d_saidSpeakers, .ref p_saidSpeaker, .int d_saidNoises, .ref p_saidNoise, .int d_saidAskers, .ref p_saidAsker, .ref p_room, .int d_couldBe, .int d_couldHere])), (p_st, .inl (cI, 104, .inl d_st))] : va_W) s.heap.size = A at hD ⊢
  have hA : ∀ q : Nat, s.heap.size ≤ q → A q := fun q h => by rw [← hAe]; exact Or.inr h
  have hS : va_S A s.heap s.heap [] := va_S.rf
  refine W_abs (fun Q hQ => ?_)
  have hl := lv_entry ([.ref p_this, .int x1, .int x2]) (n := 8) (Nat.le_of_ble_eq_true rfl)
  rw [lg_entry_eq]
  generalize (lg_sl ([.ref p_this, .int x1, .int x2]) ++ List.replicate (8 - (lg_sl ([.ref p_this, .int x1, .int x2])).length) Slot.unset).toArray = ls at hl ⊢
  have hl : lv_has ls 8 [(0, .ref p_this), (1, .int x1), (2, .int x2)] := hl
  rw [f_X6_ours] at hrun
  refine W_start (ws := [(p_this, .inr (6, [.int d_dishes, .int d_speakers, .ref p_speaker, .int d_noises, .ref p_noise, .int d_askers, .ref p_asker, .ref p_st, .ref p_images, .ref p_isKept, .long d_trace, .ref p_text, .int d_texted, .int d_cursor, .int d_start, .int d_token, .int d_number, .long d_word, .int d_isWrong, .int d_saidDishes, .ref p_saidMount, .int d_saidSpeakers, .ref p_saidSpeaker, .int d_saidNoises, .ref p_saidNoise, .int d_saidAskers, .ref p_saidAsker, .ref p_room, .int d_couldBe, .int d_couldHere])), (p_st, .inl (cI, 104, .inl d_st))]) hP hS (fun H locs hP hS => ?_)
  refine lv_iload_n hx hb dX6_ours_0 rfl (lv_at hl 1 rfl) ?_
  have hPc : va_P (dC, dI) vwCl [] H := hP.sub [] rfl
  have hDc : va_D A [] := hD.sub [] (by decide) rfl
  have hFc := va_free (wc := []) hD hS hA [] rfl
  refine va_calli (va_runS (As := [.int x1]) (rest := []) ⟨hx, hb, hml, hown, hts⟩ (c_X6_isNote l dC dI cI cZ H.size x1 (f_X6_isNote x1) rfl) (va_cwS 1 hts gX6_ours_X6_isNote rfl rfl rfl (by decide +kernel) ⟨Nat.le_of_ble_eq_true rfl, Nat.le_of_ble_eq_true rfl⟩) ⟨fun a U g mk q => ⟨q.1, PC.mv q.2⟩, fun U hU hW => ⟨rfl, PC.of hU hW hPc hK hDc hN⟩⟩ rfl rfl hl.1 rfl (lv_room (Nat.le_of_ble_eq_true rfl)) dX6_ours_1 ⟨Nat.zero_le _, Nat.zero_le _⟩) hS (fun q _ h => hFc q h) hFc (fun r_1 u t H1 locs ht hvm hw hB hz1 hk1 hS => ?_)
  obtain ⟨hP1, hD1⟩ := hB
  try dsimp only at hw
  rw [hw]
  rw [ht] at hP1
  have hP : va_P (dC, dI) vwCl [(p_this, .inr (6, [.int d_dishes, .int d_speakers, .ref p_speaker, .int d_noises, .ref p_noise, .int d_askers, .ref p_asker, .ref p_st, .ref p_images, .ref p_isKept, .long d_trace, .ref p_text, .int d_texted, .int d_cursor, .int d_start, .int d_token, .int d_number, .long d_word, .int d_isWrong, .int d_saidDishes, .ref p_saidMount, .int d_saidSpeakers, .ref p_saidSpeaker, .int d_saidNoises, .ref p_saidNoise, .int d_saidAskers, .ref p_saidAsker, .ref p_room, .int d_couldBe, .int d_couldHere])), (p_st, .inl (cI, 104, .inl d_st))] H1 := join_ro hP hD [] rfl hk1 hP1
  clear hPc hDc hFc hk1 hz1 hP1 hD1 ht hvm
  generalize H1 = H at hP hS ⊢
  refine lv_if_eq (tgt := 16) hx hb dX6_ours_4 (by decide) (fun c_4 => ?_) (fun c_4 => ?_)
  · rw [if_pos c_4] at hrun
    refine lv_iconst (v := (-1)) hx hb dX6_ours_16 (by decide) ?_
    have hrun := Option.some.inj hrun
    subst hrun
    rw [hQ]
    exact W.iret (v := (-1)) hx hb hr (fun t ht hW => ⟨⟨(-1), (), rfl, rfl, by rw [ht]; exact hP, hD⟩, hS.F ht⟩) hS.2.2 dX6_ours_17
  · rw [if_neg c_4] at hrun
    refine lv_iload_n hx hb dX6_ours_7 rfl (lv_at hl 2 rfl) ?_
    refine lv_iconst (v := 0) hx hb dX6_ours_8 (by decide) ?_
    refine lv_iconst (v := 2) hx hb dX6_ours_9 (by decide) ?_
    have hPc : va_P (dC, dI) vwCl [] H := hP.sub [] rfl
    have hDc : va_D A [] := hD.sub [] (by decide) rfl
    have hFc := va_free (wc := []) hD hS hA [] rfl
    refine va_calli (va_runS (As := [.int x2, .int 0, .int 2]) (rest := []) ⟨hx, hb, hml, hown, hts⟩ (c_X6_in l dC dI cI cZ H.size x2 0 2 (f_X6_in x2 0 2) rfl) (va_cwS 3 hts gX6_ours_X6_in rfl rfl rfl (by decide +kernel) ⟨Nat.le_of_ble_eq_true rfl, Nat.le_of_ble_eq_true rfl⟩) ⟨fun a U g mk q => ⟨q.1, PC.mv q.2⟩, fun U hU hW => ⟨rfl, PC.of hU hW hPc hK hDc hN⟩⟩ rfl rfl hl.1 rfl (lv_room (Nat.le_of_ble_eq_true rfl)) dX6_ours_10 ⟨Nat.zero_le _, Nat.zero_le _⟩) hS (fun q _ h => hFc q h) hFc (fun r_10 u t H1 locs ht hvm hw hB hz1 hk1 hS => ?_)
    obtain ⟨hP1, hD1⟩ := hB
    try dsimp only at hw
    rw [hw]
    rw [ht] at hP1
    have hP : va_P (dC, dI) vwCl [(p_this, .inr (6, [.int d_dishes, .int d_speakers, .ref p_speaker, .int d_noises, .ref p_noise, .int d_askers, .ref p_asker, .ref p_st, .ref p_images, .ref p_isKept, .long d_trace, .ref p_text, .int d_texted, .int d_cursor, .int d_start, .int d_token, .int d_number, .long d_word, .int d_isWrong, .int d_saidDishes, .ref p_saidMount, .int d_saidSpeakers, .ref p_saidSpeaker, .int d_saidNoises, .ref p_saidNoise, .int d_saidAskers, .ref p_saidAsker, .ref p_room, .int d_couldBe, .int d_couldHere])), (p_st, .inl (cI, 104, .inl d_st))] H1 := join_ro hP hD [] rfl hk1 hP1
    clear hPc hDc hFc hk1 hz1 hP1 hD1 ht hvm
    generalize H1 = H at hP hS ⊢
    refine lv_if_ne (tgt := 18) hx hb dX6_ours_13 (by decide) (fun c_13 => ?_) (fun c_13 => ?_)
    · rw [if_neg c_13] at hrun
      refine lv_iconst (v := 0) hx hb dX6_ours_18 (by decide) ?_
      refine lv_istore_n (lv' := [(3, .int 0), (0, .ref p_this), (1, .int x1), (2, .int x2)]) hx hb dX6_ours_19 rfl hl (by decide) rfl (fun ls hl => ?_)
      refine lv_bipush (v := (-9)) hx hb dX6_ours_20 (by decide) ?_
      refine lv_istore (lv' := [(4, .int (-9)), (3, .int 0), (0, .ref p_this), (1, .int x1), (2, .int x2)]) hx hb dX6_ours_22 hl (by decide) rfl (fun ls hl => ?_)
      refine lv_iconst (v := 1) hx hb dX6_ours_24 (by decide) ?_
      refine lv_istore (lv' := [(5, .int 1), (4, .int (-9)), (3, .int 0), (0, .ref p_this), (1, .int x1), (2, .int x2)]) hx hb dX6_ours_25 hl (by decide) rfl (fun ls hl => ?_)
      have X104 : ∀ (x3_104 : Int32) (x4_104 : Int32) (H : Heap) (locs : List Loc), va_P (dC, dI) vwCl [(p_this, .inr (6, [.int d_dishes, .int d_speakers, .ref p_speaker, .int d_noises, .ref p_noise, .int d_askers, .ref p_asker, .ref p_st, .ref p_images, .ref p_isKept, .long d_trace, .ref p_text, .int d_texted, .int d_cursor, .int d_start, .int d_token, .int d_number, .long d_word, .int d_isWrong, .int d_saidDishes, .ref p_saidMount, .int d_saidSpeakers, .ref p_saidSpeaker, .int d_saidNoises, .ref p_saidNoise, .int d_saidAskers, .ref p_saidAsker, .ref p_room, .int d_couldBe, .int d_couldHere])), (p_st, .inl (cI, 104, .inl d_st))] H → va_D A [(p_this, .inr (6, [.int d_dishes, .int d_speakers, .ref p_speaker, .int d_noises, .ref p_noise, .int d_askers, .ref p_asker, .ref p_st, .ref p_images, .ref p_isKept, .long d_trace, .ref p_text, .int d_texted, .int d_cursor, .int d_start, .int d_token, .int d_number, .long d_word, .int d_isWrong, .int d_saidDishes, .ref p_saidMount, .int d_saidSpeakers, .ref p_saidSpeaker, .int d_saidNoises, .ref p_saidNoise, .int d_saidAskers, .ref p_saidAsker, .ref p_room, .int d_couldBe, .int d_couldHere])), (p_st, .inl (cI, 104, .inl d_st))] → va_S A s.heap H locs → ∀ ls : Array Slot, lv_has ls 8 [(2, .int x2), (3, .int x3_104), (4, .int x4_104)] → f_X6_ours_X104 x2 x3_104 x4_104 = some out → W p l e ({ frames := 2, cells := 0, slots := 0, locals := 49 } : Room) s m ([.ref p_this, .int x1, .int x2] : List Value).toArray below meth c H locs 0 0 Q (F0 m 104 ls []) := by
        intro x3_104 x4_104 H locs hP hD hS ls hl hrun
        rw [f_X6_ours_X104] at hrun
        refine lv_iload_n hx hb dX6_ours_104 rfl (lv_at hl 0 rfl) ?_
        refine lv_if_ne (tgt := 112) hx hb dX6_ours_105 (by decide) (fun c_105 => ?_) (fun c_105 => ?_)
        · rw [if_neg c_105] at hrun
          refine lv_iload_n hx hb dX6_ours_112 rfl (lv_at hl 1 rfl) ?_
          refine lv_if_ne (tgt := 121) hx hb dX6_ours_113 (by decide) (fun c_113 => ?_) (fun c_113 => ?_)
          · rw [if_neg c_113] at hrun
            refine lv_iload_n hx hb dX6_ours_121 rfl (lv_at hl 0 rfl) ?_
            refine lv_iconst (v := 1) hx hb dX6_ours_122 (by decide) ?_
            refine lv_icmp_ne (tgt := 134) hx hb dX6_ours_123 (by decide) (fun c_123 => ?_) (fun c_123 => ?_)
            · rw [if_neg c_123] at hrun
              refine lv_iload hx hb dX6_ours_134 (lv_at hl 2 rfl) ?_
              refine lv_bipush (v := 12) hx hb dX6_ours_136 (by decide) ?_
              refine lv_irem hx hb dX6_ours_138 (by decide) ?_
              have hrun := Option.some.inj hrun
              subst hrun
              rw [hQ]
              exact W.iret (v := x4_104 - x4_104 / 12 * 12) hx hb hr (fun t ht hW => ⟨⟨x4_104 - x4_104 / 12 * 12, (), rfl, rfl, by rw [ht]; exact hP, hD⟩, hS.F ht⟩) hS.2.2 dX6_ours_139
            · rw [if_pos c_123] at hrun
              refine lv_iload hx hb dX6_ours_126 (lv_at hl 2 rfl) ?_
              refine lv_bipush (v := 12) hx hb dX6_ours_128 (by decide) ?_
              refine lv_idiv hx hb dX6_ours_130 (by decide) ?_
              refine lv_goto (tgt := 139) hx hb dX6_ours_131 (by decide) ?_
              have hrun := Option.some.inj hrun
              subst hrun
              rw [hQ]
              exact W.iret (v := x4_104 / 12) hx hb hr (fun t ht hW => ⟨⟨x4_104 / 12, (), rfl, rfl, by rw [ht]; exact hP, hD⟩, hS.F ht⟩) hS.2.2 dX6_ours_139
          · rw [if_pos c_113] at hrun
            refine lv_bipush (v := (-9)) hx hb dX6_ours_116 (by decide) ?_
            refine lv_goto (tgt := 139) hx hb dX6_ours_118 (by decide) ?_
            have hrun := Option.some.inj hrun
            subst hrun
            rw [hQ]
            exact W.iret (v := (-9)) hx hb hr (fun t ht hW => ⟨⟨(-9), (), rfl, rfl, by rw [ht]; exact hP, hD⟩, hS.F ht⟩) hS.2.2 dX6_ours_139
        · rw [if_pos c_105] at hrun
          refine lv_iload_n hx hb dX6_ours_108 rfl (lv_at hl 1 rfl) ?_
          refine lv_goto (tgt := 139) hx hb dX6_ours_109 (by decide) ?_
          have hrun := Option.some.inj hrun
          subst hrun
          rw [hQ]
          exact W.iret (v := x3_104) hx hb hr (fun t ht hW => ⟨⟨x3_104, (), rfl, rfl, by rw [ht]; exact hP, hD⟩, hS.F ht⟩) hS.2.2 dX6_ours_139
      have L27 : ∀ (n9_27 : Nat) (x3_27 : Int32) (x4_27 : Int32) (x5_27 : Int32) (H : Heap) (locs : List Loc), va_P (dC, dI) vwCl [(p_this, .inr (6, [.int d_dishes, .int d_speakers, .ref p_speaker, .int d_noises, .ref p_noise, .int d_askers, .ref p_asker, .ref p_st, .ref p_images, .ref p_isKept, .long d_trace, .ref p_text, .int d_texted, .int d_cursor, .int d_start, .int d_token, .int d_number, .long d_word, .int d_isWrong, .int d_saidDishes, .ref p_saidMount, .int d_saidSpeakers, .ref p_saidSpeaker, .int d_saidNoises, .ref p_saidNoise, .int d_saidAskers, .ref p_saidAsker, .ref p_room, .int d_couldBe, .int d_couldHere])), (p_st, .inl (cI, 104, .inl d_st))] H → va_D A [(p_this, .inr (6, [.int d_dishes, .int d_speakers, .ref p_speaker, .int d_noises, .ref p_noise, .int d_askers, .ref p_asker, .ref p_st, .ref p_images, .ref p_isKept, .long d_trace, .ref p_text, .int d_texted, .int d_cursor, .int d_start, .int d_token, .int d_number, .long d_word, .int d_isWrong, .int d_saidDishes, .ref p_saidMount, .int d_saidSpeakers, .ref p_saidSpeaker, .int d_saidNoises, .ref p_saidNoise, .int d_saidAskers, .ref p_saidAsker, .ref p_room, .int d_couldBe, .int d_couldHere])), (p_st, .inl (cI, 104, .inl d_st))] → va_S A s.heap H locs → ∀ ls : Array Slot, lv_has ls 8 [(0, .ref p_this), (1, .int x1), (2, .int x2), (3, .int x3_27), (4, .int x4_27), (5, .int x5_27)] → f_X6_ours_L27 (f_X6_ours_X104 x2) x1 x2 d_st n9_27 x3_27 x4_27 x5_27 = some out → W p l e ({ frames := 2, cells := 0, slots := 0, locals := 49 } : Room) s m ([.ref p_this, .int x1, .int x2] : List Value).toArray below meth c H locs 0 0 Q (F0 m 27 ls []) := by
        intro n9_27
        induction n9_27 with
        | zero =>
          intro x3_27 x4_27 x5_27 H locs hP hD hS ls hl hrun
          rw [f_X6_ours_L27] at hrun
          cases hrun
        | succ n9_27 ih27 =>
          intro x3_27 x4_27 x5_27 H locs hP hD hS ls hl hrun
          rw [f_X6_ours_L27] at hrun
          refine lv_iload hx hb dX6_ours_27 (lv_at hl 5 rfl) ?_
          refine lv_bipush (v := 12) hx hb dX6_ours_29 (by decide) ?_
          refine lv_icmp_gt (tgt := 104) hx hb dX6_ours_31 (by decide) (fun c_31 => ?_) (fun c_31 => ?_)
          · rw [if_pos c_31] at hrun
            exact X104 x3_27 x4_27 H locs hP hD hS ls (lv_sub hl [2, 3, 4] rfl) hrun
          · rw [if_neg c_31] at hrun
            refine lv_iconst (v := 0) hx hb dX6_ours_34 (by decide) ?_
            refine lv_istore (lv' := [(6, .int 0), (0, .ref p_this), (1, .int x1), (2, .int x2), (3, .int x3_27), (4, .int x4_27), (5, .int x5_27)]) hx hb dX6_ours_35 hl (by decide) rfl (fun ls hl => ?_)
            have X98 : ∀ (x3_98 : Int32) (x4_98 : Int32) (H : Heap) (locs : List Loc), va_P (dC, dI) vwCl [(p_this, .inr (6, [.int d_dishes, .int d_speakers, .ref p_speaker, .int d_noises, .ref p_noise, .int d_askers, .ref p_asker, .ref p_st, .ref p_images, .ref p_isKept, .long d_trace, .ref p_text, .int d_texted, .int d_cursor, .int d_start, .int d_token, .int d_number, .long d_word, .int d_isWrong, .int d_saidDishes, .ref p_saidMount, .int d_saidSpeakers, .ref p_saidSpeaker, .int d_saidNoises, .ref p_saidNoise, .int d_saidAskers, .ref p_saidAsker, .ref p_room, .int d_couldBe, .int d_couldHere])), (p_st, .inl (cI, 104, .inl d_st))] H → va_D A [(p_this, .inr (6, [.int d_dishes, .int d_speakers, .ref p_speaker, .int d_noises, .ref p_noise, .int d_askers, .ref p_asker, .ref p_st, .ref p_images, .ref p_isKept, .long d_trace, .ref p_text, .int d_texted, .int d_cursor, .int d_start, .int d_token, .int d_number, .long d_word, .int d_isWrong, .int d_saidDishes, .ref p_saidMount, .int d_saidSpeakers, .ref p_saidSpeaker, .int d_saidNoises, .ref p_saidNoise, .int d_saidAskers, .ref p_saidAsker, .ref p_room, .int d_couldBe, .int d_couldHere])), (p_st, .inl (cI, 104, .inl d_st))] → va_S A s.heap H locs → ∀ ls : Array Slot, lv_has ls 8 [(0, .ref p_this), (1, .int x1), (2, .int x2), (3, .int x3_98), (4, .int x4_98), (5, .int x5_27)] → f_X6_ours_X98 (f_X6_ours_L27 (f_X6_ours_X104 x2) x1 x2 d_st n9_27) x1 x2 x5_27 d_st x3_98 x4_98 = some out → W p l e ({ frames := 2, cells := 0, slots := 0, locals := 49 } : Room) s m ([.ref p_this, .int x1, .int x2] : List Value).toArray below meth c H locs 0 0 Q (F0 m 98 ls []) := by
              intro x3_98 x4_98 H locs hP hD hS ls hl hrun
              rw [f_X6_ours_X98] at hrun
              refine lv_iinc (v := x5_27 + 1) (lv' := [(5, .int (x5_27 + 1)), (0, .ref p_this), (1, .int x1), (2, .int x2), (3, .int x3_98), (4, .int x4_98)]) hx hb dX6_ours_98 hl (k := 5) rfl rfl (by decide) rfl (fun ls hl => ?_)
              refine lv_goto (tgt := 27) hx hb dX6_ours_101 (by decide) ?_
              exact ih27 x3_98 x4_98 (x5_27 + 1) H locs hP hD hS ls (lv_sub hl [1, 2, 3, 4, 5, 0] rfl) hrun
            have L37 : ∀ (n9_37 : Nat) (x3_37 : Int32) (x4_37 : Int32) (x6_37 : Int32) (H : Heap) (locs : List Loc), va_P (dC, dI) vwCl [(p_this, .inr (6, [.int d_dishes, .int d_speakers, .ref p_speaker, .int d_noises, .ref p_noise, .int d_askers, .ref p_asker, .ref p_st, .ref p_images, .ref p_isKept, .long d_trace, .ref p_text, .int d_texted, .int d_cursor, .int d_start, .int d_token, .int d_number, .long d_word, .int d_isWrong, .int d_saidDishes, .ref p_saidMount, .int d_saidSpeakers, .ref p_saidSpeaker, .int d_saidNoises, .ref p_saidNoise, .int d_saidAskers, .ref p_saidAsker, .ref p_room, .int d_couldBe, .int d_couldHere])), (p_st, .inl (cI, 104, .inl d_st))] H → va_D A [(p_this, .inr (6, [.int d_dishes, .int d_speakers, .ref p_speaker, .int d_noises, .ref p_noise, .int d_askers, .ref p_asker, .ref p_st, .ref p_images, .ref p_isKept, .long d_trace, .ref p_text, .int d_texted, .int d_cursor, .int d_start, .int d_token, .int d_number, .long d_word, .int d_isWrong, .int d_saidDishes, .ref p_saidMount, .int d_saidSpeakers, .ref p_saidSpeaker, .int d_saidNoises, .ref p_saidNoise, .int d_saidAskers, .ref p_saidAsker, .ref p_room, .int d_couldBe, .int d_couldHere])), (p_st, .inl (cI, 104, .inl d_st))] → va_S A s.heap H locs → ∀ ls : Array Slot, lv_has ls 8 [(0, .ref p_this), (1, .int x1), (2, .int x2), (3, .int x3_37), (4, .int x4_37), (5, .int x5_27), (6, .int x6_37)] → f_X6_ours_L37 (f_X6_ours_X98 (f_X6_ours_L27 (f_X6_ours_X104 x2) x1 x2 d_st n9_27) x1 x2 x5_27 d_st) x1 x2 x5_27 d_st n9_37 x3_37 x4_37 x6_37 = some out → W p l e ({ frames := 2, cells := 0, slots := 0, locals := 49 } : Room) s m ([.ref p_this, .int x1, .int x2] : List Value).toArray below meth c H locs 0 0 Q (F0 m 37 ls []) := by
              intro n9_37
              induction n9_37 with
              | zero =>
                intro x3_37 x4_37 x6_37 H locs hP hD hS ls hl hrun
                rw [f_X6_ours_L37] at hrun
                cases hrun
              | succ n9_37 ih37 =>
                intro x3_37 x4_37 x6_37 H locs hP hD hS ls hl hrun
                rw [f_X6_ours_L37] at hrun
                refine lv_iload hx hb dX6_ours_37 (lv_at hl 6 rfl) ?_
                refine lv_iload hx hb dX6_ours_39 (lv_at hl 5 rfl) ?_
                refine lv_icmp_ge (tgt := 98) hx hb dX6_ours_41 (by decide) (fun c_41 => ?_) (fun c_41 => ?_)
                · rw [if_pos c_41] at hrun
                  exact X98 x3_37 x4_37 H locs hP hD hS ls (lv_sub hl [0, 1, 2, 3, 4, 5] rfl) hrun
                · rw [if_neg c_41] at hrun
                  refine lv_aload_n hx hb dX6_ours_44 rfl (lv_at hl 0 rfl) ?_
                  refine lv_iload_n hx hb dX6_ours_45 rfl (lv_at hl 1 rfl) ?_
                  refine lv_iload hx hb dX6_ours_46 (lv_at hl 5 rfl) ?_
                  refine lv_iload hx hb dX6_ours_48 (lv_at hl 6 rfl) ?_
                  obtain ⟨q50, hq50, hrun⟩ := bind_out hrun
                  have hPc : va_P (dC, dI) vwCl [(p_this, .inr (6, [.int d_dishes, .int d_speakers, .ref p_speaker, .int d_noises, .ref p_noise, .int d_askers, .ref p_asker, .ref p_st, .ref p_images, .ref p_isKept, .long d_trace, .ref p_text, .int d_texted, .int d_cursor, .int d_start, .int d_token, .int d_number, .long d_word, .int d_isWrong, .int d_saidDishes, .ref p_saidMount, .int d_saidSpeakers, .ref p_saidSpeaker, .int d_saidNoises, .ref p_saidNoise, .int d_saidAskers, .ref p_saidAsker, .ref p_room, .int d_couldBe, .int d_couldHere])), (p_st, .inl (cI, 104, .inl d_st))] H := hP.sub [0, 1] rfl
                  have hDc : va_D A [(p_this, .inr (6, [.int d_dishes, .int d_speakers, .ref p_speaker, .int d_noises, .ref p_noise, .int d_askers, .ref p_asker, .ref p_st, .ref p_images, .ref p_isKept, .long d_trace, .ref p_text, .int d_texted, .int d_cursor, .int d_start, .int d_token, .int d_number, .long d_word, .int d_isWrong, .int d_saidDishes, .ref p_saidMount, .int d_saidSpeakers, .ref p_saidSpeaker, .int d_saidNoises, .ref p_saidNoise, .int d_saidAskers, .ref p_saidAsker, .ref p_room, .int d_couldBe, .int d_couldHere])), (p_st, .inl (cI, 104, .inl d_st))] := hD.sub [0, 1] (by decide) rfl
                  have hFc := va_free (wc := [(p_this, .inr (6, [.int d_dishes, .int d_speakers, .ref p_speaker, .int d_noises, .ref p_noise, .int d_askers, .ref p_asker, .ref p_st, .ref p_images, .ref p_isKept, .long d_trace, .ref p_text, .int d_texted, .int d_cursor, .int d_start, .int d_token, .int d_number, .long d_word, .int d_isWrong, .int d_saidDishes, .ref p_saidMount, .int d_saidSpeakers, .ref p_saidSpeaker, .int d_saidNoises, .ref p_saidNoise, .int d_saidAskers, .ref p_saidAsker, .ref p_room, .int d_couldBe, .int d_couldHere])), (p_st, .inl (cI, 104, .inl d_st))]) hD hS hA [0, 1] rfl
                  refine va_calli (va_runV (As := [.int x1, .int x5_27, .int x6_37]) (rest := []) ⟨hx, hb, hml, hown, hts⟩ (c_X6_mayBeOurs l dC dI cI cZ H.size p_asker p_images p_isKept p_noise p_room p_saidAsker p_saidMount p_saidNoise p_saidSpeaker p_speaker p_st p_text p_this d_dishes d_speakers d_noises d_askers d_trace d_texted d_cursor d_start d_token d_number d_word d_isWrong d_saidDishes d_saidSpeakers d_saidNoises d_saidAskers d_couldBe d_couldHere d_st x1 x5_27 x6_37 q50 hq50) (cwV 3 hts gX6_ours_X6_mayBeOurs rfl rfl rfl (by decide +kernel) ⟨Nat.le_of_ble_eq_true rfl, Nat.le_of_ble_eq_true rfl⟩) ⟨fun a U g mk q => ⟨q.1, PC.mv q.2⟩, va_recv hK hP (ci := 6) (q0 := 0) rfl rfl, fun U hU hW => ⟨rfl, PC.of hU hW hPc hK hDc hN⟩⟩ rfl rfl hl.1 rfl (lv_room (Nat.le_of_ble_eq_true rfl)) dX6_ours_50 ⟨Nat.zero_le _, Nat.zero_le _⟩) hS (fun q _ h => hFc q h) hFc (fun r_50 u t H1 locs ht hvm hw hB hz1 hk1 hS => ?_)
                  obtain ⟨hP1, hD1⟩ := hB
                  try dsimp only at hw
                  rw [hw]
                  rw [ht] at hP1
                  have hP : va_P (dC, dI) vwCl [(p_this, .inr (6, [.int d_dishes, .int d_speakers, .ref p_speaker, .int d_noises, .ref p_noise, .int d_askers, .ref p_asker, .ref p_st, .ref p_images, .ref p_isKept, .long d_trace, .ref p_text, .int d_texted, .int d_cursor, .int d_start, .int d_token, .int d_number, .long d_word, .int d_isWrong, .int d_saidDishes, .ref p_saidMount, .int d_saidSpeakers, .ref p_saidSpeaker, .int d_saidNoises, .ref p_saidNoise, .int d_saidAskers, .ref p_saidAsker, .ref p_room, .int d_couldBe, .int d_couldHere])), (p_st, .inl (cI, 104, .inl d_st))] H1 := join_ro hP hD [0, 1] rfl hk1 hP1
                  clear hPc hDc hFc hk1 hz1 hP1 hD1 ht hvm
                  generalize H1 = H at hP hS ⊢
                  refine lv_istore (lv' := [(7, .int q50), (0, .ref p_this), (1, .int x1), (2, .int x2), (3, .int x3_37), (4, .int x4_37), (5, .int x5_27), (6, .int x6_37)]) hx hb dX6_ours_53 hl (by decide) rfl (fun ls hl => ?_)
                  refine lv_iload hx hb dX6_ours_55 (lv_at hl 0 rfl) ?_
                  have J75 : ∀  (H : Heap) (locs : List Loc), va_P (dC, dI) vwCl [(p_this, .inr (6, [.int d_dishes, .int d_speakers, .ref p_speaker, .int d_noises, .ref p_noise, .int d_askers, .ref p_asker, .ref p_st, .ref p_images, .ref p_isKept, .long d_trace, .ref p_text, .int d_texted, .int d_cursor, .int d_start, .int d_token, .int d_number, .long d_word, .int d_isWrong, .int d_saidDishes, .ref p_saidMount, .int d_saidSpeakers, .ref p_saidSpeaker, .int d_saidNoises, .ref p_saidNoise, .int d_saidAskers, .ref p_saidAsker, .ref p_room, .int d_couldBe, .int d_couldHere])), (p_st, .inl (cI, 104, .inl d_st))] H → va_D A [(p_this, .inr (6, [.int d_dishes, .int d_speakers, .ref p_speaker, .int d_noises, .ref p_noise, .int d_askers, .ref p_asker, .ref p_st, .ref p_images, .ref p_isKept, .long d_trace, .ref p_text, .int d_texted, .int d_cursor, .int d_start, .int d_token, .int d_number, .long d_word, .int d_isWrong, .int d_saidDishes, .ref p_saidMount, .int d_saidSpeakers, .ref p_saidSpeaker, .int d_saidNoises, .ref p_saidNoise, .int d_saidAskers, .ref p_saidAsker, .ref p_room, .int d_couldBe, .int d_couldHere])), (p_st, .inl (cI, 104, .inl d_st))] → va_S A s.heap H locs → ∀ ls : Array Slot, lv_has ls 8 [(0, .ref p_this), (1, .int x1), (2, .int x2), (3, .int x3_37), (4, .int x4_37), (5, .int x5_27), (6, .int x6_37), (7, .int q50)] → f_X6_ours_J75 (f_X6_ours_L37 (f_X6_ours_X98 (f_X6_ours_L27 (f_X6_ours_X104 x2) x1 x2 d_st n9_27) x1 x2 x5_27 d_st) x1 x2 x5_27 d_st n9_37) x1 x2 x3_37 x4_37 x5_27 x6_37 q50 d_st = some out → W p l e ({ frames := 2, cells := 0, slots := 0, locals := 49 } : Room) s m ([.ref p_this, .int x1, .int x2] : List Value).toArray below meth c H locs 0 0 Q (F0 m 75 ls []) := by
                    intro H locs hP hD hS ls hl hrun
                    rw [f_X6_ours_J75] at hrun
                    refine lv_iload hx hb dX6_ours_75 (lv_at hl 4 rfl) ?_
                    refine lv_istore (lv' := [(4, .int x4_37), (0, .ref p_this), (1, .int x1), (2, .int x2), (3, .int x3_37), (5, .int x5_27), (6, .int x6_37), (7, .int q50)]) hx hb dX6_ours_77 hl (by decide) rfl (fun ls hl => ?_)
                    refine lv_iload_n hx hb dX6_ours_79 rfl (lv_at hl 4 rfl) ?_
                    refine lv_iload hx hb dX6_ours_80 (lv_at hl 7 rfl) ?_
                    have J90 : ∀ (t1_90 : Int32) (H : Heap) (locs : List Loc), va_P (dC, dI) vwCl [(p_this, .inr (6, [.int d_dishes, .int d_speakers, .ref p_speaker, .int d_noises, .ref p_noise, .int d_askers, .ref p_asker, .ref p_st, .ref p_images, .ref p_isKept, .long d_trace, .ref p_text, .int d_texted, .int d_cursor, .int d_start, .int d_token, .int d_number, .long d_word, .int d_isWrong, .int d_saidDishes, .ref p_saidMount, .int d_saidSpeakers, .ref p_saidSpeaker, .int d_saidNoises, .ref p_saidNoise, .int d_saidAskers, .ref p_saidAsker, .ref p_room, .int d_couldBe, .int d_couldHere])), (p_st, .inl (cI, 104, .inl d_st))] H → va_D A [(p_this, .inr (6, [.int d_dishes, .int d_speakers, .ref p_speaker, .int d_noises, .ref p_noise, .int d_askers, .ref p_asker, .ref p_st, .ref p_images, .ref p_isKept, .long d_trace, .ref p_text, .int d_texted, .int d_cursor, .int d_start, .int d_token, .int d_number, .long d_word, .int d_isWrong, .int d_saidDishes, .ref p_saidMount, .int d_saidSpeakers, .ref p_saidSpeaker, .int d_saidNoises, .ref p_saidNoise, .int d_saidAskers, .ref p_saidAsker, .ref p_room, .int d_couldBe, .int d_couldHere])), (p_st, .inl (cI, 104, .inl d_st))] → va_S A s.heap H locs → ∀ ls : Array Slot, lv_has ls 8 [(0, .ref p_this), (1, .int x1), (2, .int x2), (4, .int x4_37), (5, .int x5_27), (6, .int x6_37)] → f_X6_ours_J90 (f_X6_ours_L37 (f_X6_ours_X98 (f_X6_ours_L27 (f_X6_ours_X104 x2) x1 x2 d_st n9_27) x1 x2 x5_27 d_st) x1 x2 x5_27 d_st n9_37) x1 x2 x4_37 x5_27 x6_37 x3_37 d_st t1_90 = some out → W p l e ({ frames := 2, cells := 0, slots := 0, locals := 49 } : Room) s m ([.ref p_this, .int x1, .int x2] : List Value).toArray below meth c H locs 0 0 Q (F0 m 90 ls [.int t1_90, .int x3_37]) := by
                      intro t1_90 H locs hP hD hS ls hl hrun
                      rw [f_X6_ours_J90] at hrun
                      refine lv_iadd hx hb dX6_ours_90 ?_
                      refine lv_istore_n (lv' := [(3, .int (x3_37 + t1_90)), (0, .ref p_this), (1, .int x1), (2, .int x2), (4, .int x4_37), (5, .int x5_27), (6, .int x6_37)]) hx hb dX6_ours_91 rfl hl (by decide) rfl (fun ls hl => ?_)
                      refine lv_iinc (v := x6_37 + 1) (lv' := [(6, .int (x6_37 + 1)), (3, .int (x3_37 + t1_90)), (0, .ref p_this), (1, .int x1), (2, .int x2), (4, .int x4_37), (5, .int x5_27)]) hx hb dX6_ours_92 hl (k := 6) rfl rfl (by decide) rfl (fun ls hl => ?_)
                      refine lv_goto (tgt := 37) hx hb dX6_ours_95 (by decide) ?_
                      exact ih37 (x3_37 + t1_90) x4_37 (x6_37 + 1) H locs hP hD hS ls (lv_sub hl [2, 3, 4, 1, 5, 6, 0] rfl) hrun
                    refine lv_if_eq (tgt := 89) hx hb dX6_ours_82 (by decide) (fun c_82 => ?_) (fun c_82 => ?_)
                    · rw [if_pos c_82] at hrun
                      refine lv_iconst (v := 0) hx hb dX6_ours_89 (by decide) ?_
                      exact J90 0 H locs hP hD hS ls (lv_sub hl [1, 2, 3, 0, 5, 6] rfl) hrun
                    · rw [if_neg c_82] at hrun
                      refine lv_iconst (v := 1) hx hb dX6_ours_85 (by decide) ?_
                      refine lv_goto (tgt := 90) hx hb dX6_ours_86 (by decide) ?_
                      exact J90 1 H locs hP hD hS ls (lv_sub hl [1, 2, 3, 0, 5, 6] rfl) hrun
                  have J77 : ∀ (t0_77 : Int32) (H : Heap) (locs : List Loc), va_P (dC, dI) vwCl [(p_this, .inr (6, [.int d_dishes, .int d_speakers, .ref p_speaker, .int d_noises, .ref p_noise, .int d_askers, .ref p_asker, .ref p_st, .ref p_images, .ref p_isKept, .long d_trace, .ref p_text, .int d_texted, .int d_cursor, .int d_start, .int d_token, .int d_number, .long d_word, .int d_isWrong, .int d_saidDishes, .ref p_saidMount, .int d_saidSpeakers, .ref p_saidSpeaker, .int d_saidNoises, .ref p_saidNoise, .int d_saidAskers, .ref p_saidAsker, .ref p_room, .int d_couldBe, .int d_couldHere])), (p_st, .inl (cI, 104, .inl d_st))] H → va_D A [(p_this, .inr (6, [.int d_dishes, .int d_speakers, .ref p_speaker, .int d_noises, .ref p_noise, .int d_askers, .ref p_asker, .ref p_st, .ref p_images, .ref p_isKept, .long d_trace, .ref p_text, .int d_texted, .int d_cursor, .int d_start, .int d_token, .int d_number, .long d_word, .int d_isWrong, .int d_saidDishes, .ref p_saidMount, .int d_saidSpeakers, .ref p_saidSpeaker, .int d_saidNoises, .ref p_saidNoise, .int d_saidAskers, .ref p_saidAsker, .ref p_room, .int d_couldBe, .int d_couldHere])), (p_st, .inl (cI, 104, .inl d_st))] → va_S A s.heap H locs → ∀ ls : Array Slot, lv_has ls 8 [(0, .ref p_this), (1, .int x1), (2, .int x2), (3, .int x3_37), (5, .int x5_27), (6, .int x6_37), (7, .int q50)] → f_X6_ours_J77 (f_X6_ours_L37 (f_X6_ours_X98 (f_X6_ours_L27 (f_X6_ours_X104 x2) x1 x2 d_st n9_27) x1 x2 x5_27 d_st) x1 x2 x5_27 d_st n9_37) x1 x2 x3_37 x5_27 x6_37 q50 d_st t0_77 = some out → W p l e ({ frames := 2, cells := 0, slots := 0, locals := 49 } : Room) s m ([.ref p_this, .int x1, .int x2] : List Value).toArray below meth c H locs 0 0 Q (F0 m 77 ls [.int t0_77]) := by
                    intro t0_77 H locs hP hD hS ls hl hrun
                    rw [f_X6_ours_J77] at hrun
                    refine lv_istore (lv' := [(4, .int t0_77), (0, .ref p_this), (1, .int x1), (2, .int x2), (3, .int x3_37), (5, .int x5_27), (6, .int x6_37), (7, .int q50)]) hx hb dX6_ours_77 hl (by decide) rfl (fun ls hl => ?_)
                    refine lv_iload_n hx hb dX6_ours_79 rfl (lv_at hl 4 rfl) ?_
                    refine lv_iload hx hb dX6_ours_80 (lv_at hl 7 rfl) ?_
                    have J90 : ∀ (t1_90 : Int32) (H : Heap) (locs : List Loc), va_P (dC, dI) vwCl [(p_this, .inr (6, [.int d_dishes, .int d_speakers, .ref p_speaker, .int d_noises, .ref p_noise, .int d_askers, .ref p_asker, .ref p_st, .ref p_images, .ref p_isKept, .long d_trace, .ref p_text, .int d_texted, .int d_cursor, .int d_start, .int d_token, .int d_number, .long d_word, .int d_isWrong, .int d_saidDishes, .ref p_saidMount, .int d_saidSpeakers, .ref p_saidSpeaker, .int d_saidNoises, .ref p_saidNoise, .int d_saidAskers, .ref p_saidAsker, .ref p_room, .int d_couldBe, .int d_couldHere])), (p_st, .inl (cI, 104, .inl d_st))] H → va_D A [(p_this, .inr (6, [.int d_dishes, .int d_speakers, .ref p_speaker, .int d_noises, .ref p_noise, .int d_askers, .ref p_asker, .ref p_st, .ref p_images, .ref p_isKept, .long d_trace, .ref p_text, .int d_texted, .int d_cursor, .int d_start, .int d_token, .int d_number, .long d_word, .int d_isWrong, .int d_saidDishes, .ref p_saidMount, .int d_saidSpeakers, .ref p_saidSpeaker, .int d_saidNoises, .ref p_saidNoise, .int d_saidAskers, .ref p_saidAsker, .ref p_room, .int d_couldBe, .int d_couldHere])), (p_st, .inl (cI, 104, .inl d_st))] → va_S A s.heap H locs → ∀ ls : Array Slot, lv_has ls 8 [(0, .ref p_this), (1, .int x1), (2, .int x2), (4, .int t0_77), (5, .int x5_27), (6, .int x6_37)] → f_X6_ours_J90 (f_X6_ours_L37 (f_X6_ours_X98 (f_X6_ours_L27 (f_X6_ours_X104 x2) x1 x2 d_st n9_27) x1 x2 x5_27 d_st) x1 x2 x5_27 d_st n9_37) x1 x2 t0_77 x5_27 x6_37 x3_37 d_st t1_90 = some out → W p l e ({ frames := 2, cells := 0, slots := 0, locals := 49 } : Room) s m ([.ref p_this, .int x1, .int x2] : List Value).toArray below meth c H locs 0 0 Q (F0 m 90 ls [.int t1_90, .int x3_37]) := by
                      intro t1_90 H locs hP hD hS ls hl hrun
                      rw [f_X6_ours_J90] at hrun
                      refine lv_iadd hx hb dX6_ours_90 ?_
                      refine lv_istore_n (lv' := [(3, .int (x3_37 + t1_90)), (0, .ref p_this), (1, .int x1), (2, .int x2), (4, .int t0_77), (5, .int x5_27), (6, .int x6_37)]) hx hb dX6_ours_91 rfl hl (by decide) rfl (fun ls hl => ?_)
                      refine lv_iinc (v := x6_37 + 1) (lv' := [(6, .int (x6_37 + 1)), (3, .int (x3_37 + t1_90)), (0, .ref p_this), (1, .int x1), (2, .int x2), (4, .int t0_77), (5, .int x5_27)]) hx hb dX6_ours_92 hl (k := 6) rfl rfl (by decide) rfl (fun ls hl => ?_)
                      refine lv_goto (tgt := 37) hx hb dX6_ours_95 (by decide) ?_
                      exact ih37 (x3_37 + t1_90) t0_77 (x6_37 + 1) H locs hP hD hS ls (lv_sub hl [2, 3, 4, 1, 5, 6, 0] rfl) hrun
                    refine lv_if_eq (tgt := 89) hx hb dX6_ours_82 (by decide) (fun c_82 => ?_) (fun c_82 => ?_)
                    · rw [if_pos c_82] at hrun
                      refine lv_iconst (v := 0) hx hb dX6_ours_89 (by decide) ?_
                      exact J90 0 H locs hP hD hS ls (lv_sub hl [1, 2, 3, 0, 5, 6] rfl) hrun
                    · rw [if_neg c_82] at hrun
                      refine lv_iconst (v := 1) hx hb dX6_ours_85 (by decide) ?_
                      refine lv_goto (tgt := 90) hx hb dX6_ours_86 (by decide) ?_
                      exact J90 1 H locs hP hD hS ls (lv_sub hl [1, 2, 3, 0, 5, 6] rfl) hrun
                  refine lv_if_eq (tgt := 75) hx hb dX6_ours_57 (by decide) (fun c_57 => ?_) (fun c_57 => ?_)
                  · rw [if_pos c_57] at hrun
                    exact J75 H locs hP hD hS ls (lv_sub hl [1, 2, 3, 4, 5, 6, 7, 0] rfl) hrun
                  · rw [if_neg c_57] at hrun
                    refine lv_iload_n hx hb dX6_ours_60 rfl (lv_at hl 4 rfl) ?_
                    refine lv_if_ne (tgt := 75) hx hb dX6_ours_61 (by decide) (fun c_61 => ?_) (fun c_61 => ?_)
                    · rw [if_neg c_61] at hrun
                      exact J75 H locs hP hD hS ls (lv_sub hl [1, 2, 3, 4, 5, 6, 7, 0] rfl) hrun
                    · rw [if_pos c_61] at hrun
                      refine lv_bipush (v := 12) hx hb dX6_ours_64 (by decide) ?_
                      refine lv_iload hx hb dX6_ours_66 (lv_at hl 6 rfl) ?_
                      refine lv_imul hx hb dX6_ours_68 ?_
                      refine lv_iload hx hb dX6_ours_69 (lv_at hl 7 rfl) ?_
                      refine lv_iadd hx hb dX6_ours_71 ?_
                      refine lv_goto (tgt := 77) hx hb dX6_ours_72 (by decide) ?_
                      exact J77 ((12 * x5_27) + x6_37) H locs hP hD hS ls (lv_sub hl [1, 2, 3, 4, 6, 7, 0] rfl) hrun
            exact L37 FU x3_27 x4_27 0 H locs hP hD hS ls (lv_sub hl [1, 2, 3, 4, 5, 6, 0] rfl) hrun
      exact L27 FU 0 (-9) 1 H locs hP hD hS ls (lv_sub hl [3, 4, 5, 2, 1, 0] rfl) hrun
    · rw [if_pos c_13] at hrun
      refine lv_iconst (v := (-1)) hx hb dX6_ours_16 (by decide) ?_
      have hrun := Option.some.inj hrun
      subst hrun
      rw [hQ]
      exact W.iret (v := (-1)) hx hb hr (fun t ht hW => ⟨⟨(-1), (), rfl, rfl, by rw [ht]; exact hP, hD⟩, hS.F ht⟩) hS.2.2 dX6_ours_17
-- SkyListenersModel.findCould
def f_X6_findCould_X121 (K13 : Int32 → Int32 → Int32 → Option (Int32 × Int32)) (x1 : Int32) (x2 : Int32) (x3 : Int32) (x4 : Int32) (d_st : Nat → Int32) (d_couldBe : Int32) (d_couldHere : Int32) : Option (Int32 × Int32) := (K13 (x4 + 1) d_couldBe d_couldHere)
def f_X6_findCould_X115 (K23 : Int32 → Int32 → Int32 → Option (Int32 × Int32)) (x1 : Int32) (x2 : Int32) (x3 : Int32) (x4 : Int32) (x5 : Int32) (d_st : Nat → Int32) (d_couldBe : Int32) (d_couldHere : Int32) : Option (Int32 × Int32) := (K23 (x5 + 1) d_couldBe d_couldHere)
def f_X6_findCould_J105 (K34 : Int32 → Int32 → Int32 → Option (Int32 × Int32)) (x1 : Int32) (x2 : Int32) (x3 : Int32) (x4 : Int32) (x5 : Int32) (x6 : Int32) (t1 : Int32) (d_couldBe : Int32) (d_couldHere : Int32) (d_st : Nat → Int32) (t2 : Int32) : Option (Int32 × Int32) := (K34 (x6 + 1) d_couldBe (t1 + t2))
def f_X6_findCould_J69 (K34 : Int32 → Int32 → Int32 → Option (Int32 × Int32)) (x1 : Int32) (x2 : Int32) (x3 : Int32) (x4 : Int32) (x5 : Int32) (x6 : Int32) (x7 : Int32) (t1 : Int32) (d_couldBe : Int32) (d_couldHere : Int32) (d_st : Nat → Int32) (t2 : Int32) : Option (Int32 × Int32) := (if x7 = 0 then (f_X6_findCould_J105 K34 x1 x2 x3 x4 x5 x6 d_couldHere (t1 + t2) d_couldHere d_st 0) else (if x4 = x2 then (if (f_X6_in x3 x5 x6) = 0 then (f_X6_findCould_J105 K34 x1 x2 x3 x4 x5 x6 d_couldHere (t1 + t2) d_couldHere d_st 0) else (f_X6_findCould_J105 K34 x1 x2 x3 x4 x5 x6 d_couldHere (t1 + t2) d_couldHere d_st 1)) else (f_X6_findCould_J105 K34 x1 x2 x3 x4 x5 x6 d_couldHere (t1 + t2) d_couldHere d_st 0)))
def f_X6_findCould_L34 (K115 : Int32 → Int32 → Option (Int32 × Int32)) (x1 : Int32) (x2 : Int32) (x3 : Int32) (x4 : Int32) (x5 : Int32) (d_st : Nat → Int32) : Nat → Int32 → Int32 → Int32 → Option (Int32 × Int32)
  | 0, _, _, _ => none
  | n9 + 1, x6, d_couldBe, d_couldHere => (if 24 ≤ x6 then (K115 d_couldBe d_couldHere) else ((f_X6_maySpeak d_st x1 x4 x5 x6).bind fun q49 => (if q49 = 0 then (f_X6_findCould_J69 (f_X6_findCould_L34 K115 x1 x2 x3 x4 x5 d_st n9) x1 x2 x3 x4 x5 x6 q49 d_couldBe d_couldBe d_couldHere d_st 0) else (f_X6_findCould_J69 (f_X6_findCould_L34 K115 x1 x2 x3 x4 x5 d_st n9) x1 x2 x3 x4 x5 x6 q49 d_couldBe d_couldBe d_couldHere d_st 1))))
def f_X6_findCould_L23 (K121 : Int32 → Int32 → Option (Int32 × Int32)) (x1 : Int32) (x2 : Int32) (x3 : Int32) (x4 : Int32) (d_st : Nat → Int32) : Nat → Int32 → Int32 → Int32 → Option (Int32 × Int32)
  | 0, _, _, _ => none
  | n9 + 1, x5, d_couldBe, d_couldHere => (if 24 ≤ x5 then (K121 d_couldBe d_couldHere) else (f_X6_findCould_L34 (f_X6_findCould_X115 (f_X6_findCould_L23 K121 x1 x2 x3 x4 d_st n9) x1 x2 x3 x4 x5 d_st) x1 x2 x3 x4 x5 d_st FU x5 d_couldBe d_couldHere))
def f_X6_findCould_L13 (x1 : Int32) (x2 : Int32) (x3 : Int32) (d_st : Nat → Int32) : Nat → Int32 → Int32 → Int32 → Option (Int32 × Int32)
  | 0, _, _, _ => none
  | n9 + 1, x4, d_couldBe, d_couldHere => (if 8 ≤ x4 then (some (d_couldBe, d_couldHere)) else (f_X6_findCould_L23 (f_X6_findCould_X121 (f_X6_findCould_L13  x1 x2 x3 d_st n9) x1 x2 x3 x4 d_st) x1 x2 x3 x4 d_st FU 0 d_couldBe d_couldHere))
def f_X6_findCould (d_couldBe : Int32) (d_couldHere : Int32) (d_st : Nat → Int32) (x1 : Int32) (x2 : Int32) (x3 : Int32) : Option (Int32 × Int32) := (f_X6_findCould_L13 x1 x2 x3 d_st FU 0 0 0)
set_option maxHeartbeats 4000000 in
set_option maxRecDepth 100000 in
theorem c_X6_findCould (l : Launch) (dC : Nat → ClassId) (dI : Nat → Nat → Nat) (cI cZ : ClassId) (sz : Nat) (p_asker p_images p_isKept p_noise p_room p_saidAsker p_saidMount p_saidNoise p_saidSpeaker p_speaker p_st p_text p_this : Nat) (d_dishes : Int32) (d_speakers : Int32) (d_noises : Int32) (d_askers : Int32) (d_trace : Int64) (d_texted : Int32) (d_cursor : Int32) (d_start : Int32) (d_token : Int32) (d_number : Int32) (d_word : Int64) (d_isWrong : Int32) (d_saidDishes : Int32) (d_saidSpeakers : Int32) (d_saidNoises : Int32) (d_saidAskers : Int32) (d_couldBe : Int32) (d_couldHere : Int32) (d_st : Nat → Int32) (x1 : Int32) (x2 : Int32) (x3 : Int32) (out : Int32 × Int32) (hrun : f_X6_findCould d_couldBe d_couldHere d_st x1 x2 x3 = some out) : Met l yX6_findCould wsX6_findCould ({ frames := 2, cells := 0, slots := 0, locals := 51 } : Room) (va_Pc [.ref p_this, .int x1, .int x2, .int x3] (PC dC dI cI cZ sz ([(p_this, .inr (6, [.int d_dishes, .int d_speakers, .ref p_speaker, .int d_noises, .ref p_noise, .int d_askers, .ref p_asker, .ref p_st, .ref p_images, .ref p_isKept, .long d_trace, .ref p_text, .int d_texted, .int d_cursor, .int d_start, .int d_token, .int d_number, .long d_word, .int d_isWrong, .int d_saidDishes, .ref p_saidMount, .int d_saidSpeakers, .ref p_saidSpeaker, .int d_saidNoises, .ref p_saidNoise, .int d_saidAskers, .ref p_saidAsker, .ref p_room, .int d_couldBe, .int d_couldHere])), (p_st, .inl (cI, 104, .inl d_st))] : va_W))) (va_Qv (fun (_ : Unit) => True) (fun _ t => va_P (dC, dI) vwCl [(p_this, .inr (6, [.int d_dishes, .int d_speakers, .ref p_speaker, .int d_noises, .ref p_noise, .int d_askers, .ref p_asker, .ref p_st, .ref p_images, .ref p_isKept, .long d_trace, .ref p_text, .int d_texted, .int d_cursor, .int d_start, .int d_token, .int d_number, .long d_word, .int d_isWrong, .int d_saidDishes, .ref p_saidMount, .int d_saidSpeakers, .ref p_saidSpeaker, .int d_saidNoises, .ref p_saidNoise, .int d_saidAskers, .ref p_saidAsker, .ref p_room, .int out.1, .int out.2])), (p_st, .inl (cI, 104, .inl d_st))] t.heap ∧ va_D (va_A ([(p_this, .inr (6, [.int d_dishes, .int d_speakers, .ref p_speaker, .int d_noises, .ref p_noise, .int d_askers, .ref p_asker, .ref p_st, .ref p_images, .ref p_isKept, .long d_trace, .ref p_text, .int d_texted, .int d_cursor, .int d_start, .int d_token, .int d_number, .long d_word, .int d_isWrong, .int d_saidDishes, .ref p_saidMount, .int d_saidSpeakers, .ref p_saidSpeaker, .int d_saidNoises, .ref p_saidNoise, .int d_saidAskers, .ref p_saidAsker, .ref p_room, .int d_couldBe, .int d_couldHere])), (p_st, .inl (cI, 104, .inl d_st))] : va_W) sz) [(p_this, .inr (6, [.int d_dishes, .int d_speakers, .ref p_speaker, .int d_noises, .ref p_noise, .int d_askers, .ref p_asker, .ref p_st, .ref p_images, .ref p_isKept, .long d_trace, .ref p_text, .int d_texted, .int d_cursor, .int d_start, .int d_token, .int d_number, .long d_word, .int d_isWrong, .int d_saidDishes, .ref p_saidMount, .int d_saidSpeakers, .ref p_saidSpeaker, .int d_saidNoises, .ref p_saidNoise, .int d_saidAskers, .ref p_saidAsker, .ref p_room, .int out.1, .int out.2])), (p_st, .inl (cI, 104, .inl d_st))]) (va_A ([(p_this, .inr (6, [.int d_dishes, .int d_speakers, .ref p_speaker, .int d_noises, .ref p_noise, .int d_askers, .ref p_asker, .ref p_st, .ref p_images, .ref p_isKept, .long d_trace, .ref p_text, .int d_texted, .int d_cursor, .int d_start, .int d_token, .int d_number, .long d_word, .int d_isWrong, .int d_saidDishes, .ref p_saidMount, .int d_saidSpeakers, .ref p_saidSpeaker, .int d_saidNoises, .ref p_saidNoise, .int d_saidAskers, .ref p_saidAsker, .ref p_room, .int d_couldBe, .int d_couldHere])), (p_st, .inl (cI, 104, .inl d_st))] : va_W) sz)) 0 0 (va_A ([(p_this, .inr (6, [.int d_dishes, .int d_speakers, .ref p_speaker, .int d_noises, .ref p_noise, .int d_askers, .ref p_asker, .ref p_st, .ref p_images, .ref p_isKept, .long d_trace, .ref p_text, .int d_texted, .int d_cursor, .int d_start, .int d_token, .int d_number, .long d_word, .int d_isWrong, .int d_saidDishes, .ref p_saidMount, .int d_saidSpeakers, .ref p_saidSpeaker, .int d_saidNoises, .ref p_saidNoise, .int d_saidAskers, .ref p_saidAsker, .ref p_room, .int d_couldBe, .int d_couldHere])), (p_st, .inl (cI, 104, .inl d_st))] : va_W) sz) := by
  refine Met.ofW (cc := cX6_findCould) (maxL := 8) (ret := none) (by decide) rfl ?_
  intro p e s m args below meth c s₁ B hml hv
  obtain ⟨rfl, hsz, hP, hK, hD0, hN⟩ := hv
  have hx := B.exec
  have hb := B.bytes
  have hr := B.returns
  have hts := atoms_spec (ws := wsX6_findCould) B.pre
  have hown : s.vm.findClass RX6 = some m.cls := findClass_of_methodNamed B.named
  have hlocks := B.notSynchronized
  subst hsz
  have hD := hD0.self (sz := s.heap.size)
  generalize hAe : va_A ([(p_this, .inr (6, [.int d_dishes, .int d_speakers, .ref p_speaker, .int d_noises, .ref p_noise, .int d_askers, .ref p_asker, .ref p_st, .ref p_images, .ref p_isKept, .long d_trace, .ref p_text, .int d_texted, .int d_cursor, .int d_start, .int d_token, .int d_number, .long d_word, .int d_isWrong, .int d_saidDishes, .ref p_saidMount, .int d_saidSpeakers, .ref p_saidSpeaker, .int d_saidNoises, .ref p_saidNoise, .int d_saidAskers, .ref p_saidAsker, .ref p_room, .int d_couldBe, .int d_couldHere])), (p_st, .inl (cI, 104, .inl d_st))] : va_W) s.heap.size = A at hD ⊢
  have hA : ∀ q : Nat, s.heap.size ≤ q → A q := fun q h => by rw [← hAe]; exact Or.inr h
  have hS : va_S A s.heap s.heap [] := va_S.rf
  refine W_abs (fun Q hQ => ?_)
  have hl := lv_entry ([.ref p_this, .int x1, .int x2, .int x3]) (n := 8) (Nat.le_of_ble_eq_true rfl)
  rw [lg_entry_eq]
  generalize (lg_sl ([.ref p_this, .int x1, .int x2, .int x3]) ++ List.replicate (8 - (lg_sl ([.ref p_this, .int x1, .int x2, .int x3])).length) Slot.unset).toArray = ls at hl ⊢
  have hl : lv_has ls 8 [(0, .ref p_this), (1, .int x1), (2, .int x2), (3, .int x3)] := hl
  rw [f_X6_findCould] at hrun
  refine W_start (ws := [(p_this, .inr (6, [.int d_dishes, .int d_speakers, .ref p_speaker, .int d_noises, .ref p_noise, .int d_askers, .ref p_asker, .ref p_st, .ref p_images, .ref p_isKept, .long d_trace, .ref p_text, .int d_texted, .int d_cursor, .int d_start, .int d_token, .int d_number, .long d_word, .int d_isWrong, .int d_saidDishes, .ref p_saidMount, .int d_saidSpeakers, .ref p_saidSpeaker, .int d_saidNoises, .ref p_saidNoise, .int d_saidAskers, .ref p_saidAsker, .ref p_room, .int d_couldBe, .int d_couldHere])), (p_st, .inl (cI, 104, .inl d_st))]) hP hS (fun H locs hP hS => ?_)
  have iwX6 : ∀ w ∈ wsX60, w ∈ wsX6_findCould := by decide +kernel
  refine lv_aload_n hx hb dX6_findCould_0 rfl (lv_at hl 0 rfl) ?_
  refine lv_iconst (v := 0) hx hb dX6_findCould_1 (by decide) ?_
  refine va_put (D := (dC, dI)) (ci := 6) (v := .int 0) (ty := .int) (C := RX6) (T := TX6) (N := 30) hx hb hts iwX6 tyX6 tyX6_ok nmX6 hown hK hP hD hS 0 rfl rfl 28 (by decide) (hts (.fieldLink RX6 197 "SkyListenersModel" "couldBe" "I") (by decide +kernel)) (fun _ h9 => h9) rfl (by decide +kernel) rfl rfl (Nat.le_of_ble_eq_true rfl) dX6_findCould_2 (fun H locs hP hD hS => ?_)
  have hP : va_P (dC, dI) vwCl [(p_this, .inr (6, [.int d_dishes, .int d_speakers, .ref p_speaker, .int d_noises, .ref p_noise, .int d_askers, .ref p_asker, .ref p_st, .ref p_images, .ref p_isKept, .long d_trace, .ref p_text, .int d_texted, .int d_cursor, .int d_start, .int d_token, .int d_number, .long d_word, .int d_isWrong, .int d_saidDishes, .ref p_saidMount, .int d_saidSpeakers, .ref p_saidSpeaker, .int d_saidNoises, .ref p_saidNoise, .int d_saidAskers, .ref p_saidAsker, .ref p_room, .int 0, .int d_couldHere])), (p_st, .inl (cI, 104, .inl d_st))] H := hP
  have hD : va_D A [(p_this, .inr (6, [.int d_dishes, .int d_speakers, .ref p_speaker, .int d_noises, .ref p_noise, .int d_askers, .ref p_asker, .ref p_st, .ref p_images, .ref p_isKept, .long d_trace, .ref p_text, .int d_texted, .int d_cursor, .int d_start, .int d_token, .int d_number, .long d_word, .int d_isWrong, .int d_saidDishes, .ref p_saidMount, .int d_saidSpeakers, .ref p_saidSpeaker, .int d_saidNoises, .ref p_saidNoise, .int d_saidAskers, .ref p_saidAsker, .ref p_room, .int 0, .int d_couldHere])), (p_st, .inl (cI, 104, .inl d_st))] := hD
  refine lv_aload_n hx hb dX6_findCould_5 rfl (lv_at hl 0 rfl) ?_
  refine lv_iconst (v := 0) hx hb dX6_findCould_6 (by decide) ?_
  refine va_put (D := (dC, dI)) (ci := 6) (v := .int 0) (ty := .int) (C := RX6) (T := TX6) (N := 30) hx hb hts iwX6 tyX6 tyX6_ok nmX6 hown hK hP hD hS 0 rfl rfl 29 (by decide) (hts (.fieldLink RX6 200 "SkyListenersModel" "couldHere" "I") (by decide +kernel)) (fun _ h9 => h9) rfl (by decide +kernel) rfl rfl (Nat.le_of_ble_eq_true rfl) dX6_findCould_7 (fun H locs hP hD hS => ?_)
  have hP : va_P (dC, dI) vwCl [(p_this, .inr (6, [.int d_dishes, .int d_speakers, .ref p_speaker, .int d_noises, .ref p_noise, .int d_askers, .ref p_asker, .ref p_st, .ref p_images, .ref p_isKept, .long d_trace, .ref p_text, .int d_texted, .int d_cursor, .int d_start, .int d_token, .int d_number, .long d_word, .int d_isWrong, .int d_saidDishes, .ref p_saidMount, .int d_saidSpeakers, .ref p_saidSpeaker, .int d_saidNoises, .ref p_saidNoise, .int d_saidAskers, .ref p_saidAsker, .ref p_room, .int 0, .int 0])), (p_st, .inl (cI, 104, .inl d_st))] H := hP
  have hD : va_D A [(p_this, .inr (6, [.int d_dishes, .int d_speakers, .ref p_speaker, .int d_noises, .ref p_noise, .int d_askers, .ref p_asker, .ref p_st, .ref p_images, .ref p_isKept, .long d_trace, .ref p_text, .int d_texted, .int d_cursor, .int d_start, .int d_token, .int d_number, .long d_word, .int d_isWrong, .int d_saidDishes, .ref p_saidMount, .int d_saidSpeakers, .ref p_saidSpeaker, .int d_saidNoises, .ref p_saidNoise, .int d_saidAskers, .ref p_saidAsker, .ref p_room, .int 0, .int 0])), (p_st, .inl (cI, 104, .inl d_st))] := hD
  refine lv_iconst (v := 0) hx hb dX6_findCould_10 (by decide) ?_
  refine lv_istore (lv' := [(4, .int 0), (0, .ref p_this), (1, .int x1), (2, .int x2), (3, .int x3)]) hx hb dX6_findCould_11 hl (by decide) rfl (fun ls hl => ?_)
  have L13 : ∀ (n9_13 : Nat) (x4_13 : Int32) (d_couldBe_13 : Int32) (d_couldHere_13 : Int32) (H : Heap) (locs : List Loc), va_P (dC, dI) vwCl [(p_this, .inr (6, [.int d_dishes, .int d_speakers, .ref p_speaker, .int d_noises, .ref p_noise, .int d_askers, .ref p_asker, .ref p_st, .ref p_images, .ref p_isKept, .long d_trace, .ref p_text, .int d_texted, .int d_cursor, .int d_start, .int d_token, .int d_number, .long d_word, .int d_isWrong, .int d_saidDishes, .ref p_saidMount, .int d_saidSpeakers, .ref p_saidSpeaker, .int d_saidNoises, .ref p_saidNoise, .int d_saidAskers, .ref p_saidAsker, .ref p_room, .int d_couldBe_13, .int d_couldHere_13])), (p_st, .inl (cI, 104, .inl d_st))] H → va_D A [(p_this, .inr (6, [.int d_dishes, .int d_speakers, .ref p_speaker, .int d_noises, .ref p_noise, .int d_askers, .ref p_asker, .ref p_st, .ref p_images, .ref p_isKept, .long d_trace, .ref p_text, .int d_texted, .int d_cursor, .int d_start, .int d_token, .int d_number, .long d_word, .int d_isWrong, .int d_saidDishes, .ref p_saidMount, .int d_saidSpeakers, .ref p_saidSpeaker, .int d_saidNoises, .ref p_saidNoise, .int d_saidAskers, .ref p_saidAsker, .ref p_room, .int d_couldBe_13, .int d_couldHere_13])), (p_st, .inl (cI, 104, .inl d_st))] → va_S A s.heap H locs → ∀ ls : Array Slot, lv_has ls 8 [(0, .ref p_this), (1, .int x1), (2, .int x2), (3, .int x3), (4, .int x4_13)] → f_X6_findCould_L13 x1 x2 x3 d_st n9_13 x4_13 d_couldBe_13 d_couldHere_13 = some out → W p l e ({ frames := 2, cells := 0, slots := 0, locals := 51 } : Room) s m ([.ref p_this, .int x1, .int x2, .int x3] : List Value).toArray below meth c H locs 0 0 Q (F0 m 13 ls []) := by
    intro n9_13
    induction n9_13 with
    | zero =>
      intro x4_13 d_couldBe_13 d_couldHere_13 H locs hP hD hS ls hl hrun
      rw [f_X6_findCould_L13] at hrun
      cases hrun
    | succ n9_13 ih13 =>
      intro x4_13 d_couldBe_13 d_couldHere_13 H locs hP hD hS ls hl hrun
      rw [f_X6_findCould_L13] at hrun
      refine lv_iload hx hb dX6_findCould_13 (lv_at hl 4 rfl) ?_
      refine lv_bipush (v := 8) hx hb dX6_findCould_15 (by decide) ?_
      refine lv_icmp_ge (tgt := 127) hx hb dX6_findCould_17 (by decide) (fun c_17 => ?_) (fun c_17 => ?_)
      · rw [if_pos c_17] at hrun
        have hrun := Option.some.inj hrun
        subst hrun
        rw [hQ]
        exact W.vret hx hb hr (fun t ht hW => ⟨⟨(), rfl, trivial, by rw [ht]; exact hP, hD⟩, hS.F ht⟩) hS.2.2 dX6_findCould_127
      · rw [if_neg c_17] at hrun
        refine lv_iconst (v := 0) hx hb dX6_findCould_20 (by decide) ?_
        refine lv_istore (lv' := [(5, .int 0), (0, .ref p_this), (1, .int x1), (2, .int x2), (3, .int x3), (4, .int x4_13)]) hx hb dX6_findCould_21 hl (by decide) rfl (fun ls hl => ?_)
        have X121 : ∀ (d_couldBe_121 : Int32) (d_couldHere_121 : Int32) (H : Heap) (locs : List Loc), va_P (dC, dI) vwCl [(p_this, .inr (6, [.int d_dishes, .int d_speakers, .ref p_speaker, .int d_noises, .ref p_noise, .int d_askers, .ref p_asker, .ref p_st, .ref p_images, .ref p_isKept, .long d_trace, .ref p_text, .int d_texted, .int d_cursor, .int d_start, .int d_token, .int d_number, .long d_word, .int d_isWrong, .int d_saidDishes, .ref p_saidMount, .int d_saidSpeakers, .ref p_saidSpeaker, .int d_saidNoises, .ref p_saidNoise, .int d_saidAskers, .ref p_saidAsker, .ref p_room, .int d_couldBe_121, .int d_couldHere_121])), (p_st, .inl (cI, 104, .inl d_st))] H → va_D A [(p_this, .inr (6, [.int d_dishes, .int d_speakers, .ref p_speaker, .int d_noises, .ref p_noise, .int d_askers, .ref p_asker, .ref p_st, .ref p_images, .ref p_isKept, .long d_trace, .ref p_text, .int d_texted, .int d_cursor, .int d_start, .int d_token, .int d_number, .long d_word, .int d_isWrong, .int d_saidDishes, .ref p_saidMount, .int d_saidSpeakers, .ref p_saidSpeaker, .int d_saidNoises, .ref p_saidNoise, .int d_saidAskers, .ref p_saidAsker, .ref p_room, .int d_couldBe_121, .int d_couldHere_121])), (p_st, .inl (cI, 104, .inl d_st))] → va_S A s.heap H locs → ∀ ls : Array Slot, lv_has ls 8 [(0, .ref p_this), (1, .int x1), (2, .int x2), (3, .int x3), (4, .int x4_13)] → f_X6_findCould_X121 (f_X6_findCould_L13 x1 x2 x3 d_st n9_13) x1 x2 x3 x4_13 d_st d_couldBe_121 d_couldHere_121 = some out → W p l e ({ frames := 2, cells := 0, slots := 0, locals := 51 } : Room) s m ([.ref p_this, .int x1, .int x2, .int x3] : List Value).toArray below meth c H locs 0 0 Q (F0 m 121 ls []) := by
          intro d_couldBe_121 d_couldHere_121 H locs hP hD hS ls hl hrun
          rw [f_X6_findCould_X121] at hrun
          refine lv_iinc (v := x4_13 + 1) (lv' := [(4, .int (x4_13 + 1)), (0, .ref p_this), (1, .int x1), (2, .int x2), (3, .int x3)]) hx hb dX6_findCould_121 hl (k := 4) rfl rfl (by decide) rfl (fun ls hl => ?_)
          refine lv_goto (tgt := 13) hx hb dX6_findCould_124 (by decide) ?_
          exact ih13 (x4_13 + 1) d_couldBe_121 d_couldHere_121 H locs hP hD hS ls (lv_sub hl [1, 2, 3, 4, 0] rfl) hrun
        have L23 : ∀ (n9_23 : Nat) (x5_23 : Int32) (d_couldBe_23 : Int32) (d_couldHere_23 : Int32) (H : Heap) (locs : List Loc), va_P (dC, dI) vwCl [(p_this, .inr (6, [.int d_dishes, .int d_speakers, .ref p_speaker, .int d_noises, .ref p_noise, .int d_askers, .ref p_asker, .ref p_st, .ref p_images, .ref p_isKept, .long d_trace, .ref p_text, .int d_texted, .int d_cursor, .int d_start, .int d_token, .int d_number, .long d_word, .int d_isWrong, .int d_saidDishes, .ref p_saidMount, .int d_saidSpeakers, .ref p_saidSpeaker, .int d_saidNoises, .ref p_saidNoise, .int d_saidAskers, .ref p_saidAsker, .ref p_room, .int d_couldBe_23, .int d_couldHere_23])), (p_st, .inl (cI, 104, .inl d_st))] H → va_D A [(p_this, .inr (6, [.int d_dishes, .int d_speakers, .ref p_speaker, .int d_noises, .ref p_noise, .int d_askers, .ref p_asker, .ref p_st, .ref p_images, .ref p_isKept, .long d_trace, .ref p_text, .int d_texted, .int d_cursor, .int d_start, .int d_token, .int d_number, .long d_word, .int d_isWrong, .int d_saidDishes, .ref p_saidMount, .int d_saidSpeakers, .ref p_saidSpeaker, .int d_saidNoises, .ref p_saidNoise, .int d_saidAskers, .ref p_saidAsker, .ref p_room, .int d_couldBe_23, .int d_couldHere_23])), (p_st, .inl (cI, 104, .inl d_st))] → va_S A s.heap H locs → ∀ ls : Array Slot, lv_has ls 8 [(0, .ref p_this), (1, .int x1), (2, .int x2), (3, .int x3), (4, .int x4_13), (5, .int x5_23)] → f_X6_findCould_L23 (f_X6_findCould_X121 (f_X6_findCould_L13 x1 x2 x3 d_st n9_13) x1 x2 x3 x4_13 d_st) x1 x2 x3 x4_13 d_st n9_23 x5_23 d_couldBe_23 d_couldHere_23 = some out → W p l e ({ frames := 2, cells := 0, slots := 0, locals := 51 } : Room) s m ([.ref p_this, .int x1, .int x2, .int x3] : List Value).toArray below meth c H locs 0 0 Q (F0 m 23 ls []) := by
          intro n9_23
          induction n9_23 with
          | zero =>
            intro x5_23 d_couldBe_23 d_couldHere_23 H locs hP hD hS ls hl hrun
            rw [f_X6_findCould_L23] at hrun
            cases hrun
          | succ n9_23 ih23 =>
            intro x5_23 d_couldBe_23 d_couldHere_23 H locs hP hD hS ls hl hrun
            rw [f_X6_findCould_L23] at hrun
            refine lv_iload hx hb dX6_findCould_23 (lv_at hl 5 rfl) ?_
            refine lv_bipush (v := 24) hx hb dX6_findCould_25 (by decide) ?_
            refine lv_icmp_ge (tgt := 121) hx hb dX6_findCould_27 (by decide) (fun c_27 => ?_) (fun c_27 => ?_)
            · rw [if_pos c_27] at hrun
              exact X121 d_couldBe_23 d_couldHere_23 H locs hP hD hS ls (lv_sub hl [0, 1, 2, 3, 4] rfl) hrun
            · rw [if_neg c_27] at hrun
              refine lv_iload hx hb dX6_findCould_30 (lv_at hl 5 rfl) ?_
              refine lv_istore (lv' := [(6, .int x5_23), (0, .ref p_this), (1, .int x1), (2, .int x2), (3, .int x3), (4, .int x4_13), (5, .int x5_23)]) hx hb dX6_findCould_32 hl (by decide) rfl (fun ls hl => ?_)
              have X115 : ∀ (d_couldBe_115 : Int32) (d_couldHere_115 : Int32) (H : Heap) (locs : List Loc), va_P (dC, dI) vwCl [(p_this, .inr (6, [.int d_dishes, .int d_speakers, .ref p_speaker, .int d_noises, .ref p_noise, .int d_askers, .ref p_asker, .ref p_st, .ref p_images, .ref p_isKept, .long d_trace, .ref p_text, .int d_texted, .int d_cursor, .int d_start, .int d_token, .int d_number, .long d_word, .int d_isWrong, .int d_saidDishes, .ref p_saidMount, .int d_saidSpeakers, .ref p_saidSpeaker, .int d_saidNoises, .ref p_saidNoise, .int d_saidAskers, .ref p_saidAsker, .ref p_room, .int d_couldBe_115, .int d_couldHere_115])), (p_st, .inl (cI, 104, .inl d_st))] H → va_D A [(p_this, .inr (6, [.int d_dishes, .int d_speakers, .ref p_speaker, .int d_noises, .ref p_noise, .int d_askers, .ref p_asker, .ref p_st, .ref p_images, .ref p_isKept, .long d_trace, .ref p_text, .int d_texted, .int d_cursor, .int d_start, .int d_token, .int d_number, .long d_word, .int d_isWrong, .int d_saidDishes, .ref p_saidMount, .int d_saidSpeakers, .ref p_saidSpeaker, .int d_saidNoises, .ref p_saidNoise, .int d_saidAskers, .ref p_saidAsker, .ref p_room, .int d_couldBe_115, .int d_couldHere_115])), (p_st, .inl (cI, 104, .inl d_st))] → va_S A s.heap H locs → ∀ ls : Array Slot, lv_has ls 8 [(0, .ref p_this), (1, .int x1), (2, .int x2), (3, .int x3), (4, .int x4_13), (5, .int x5_23)] → f_X6_findCould_X115 (f_X6_findCould_L23 (f_X6_findCould_X121 (f_X6_findCould_L13 x1 x2 x3 d_st n9_13) x1 x2 x3 x4_13 d_st) x1 x2 x3 x4_13 d_st n9_23) x1 x2 x3 x4_13 x5_23 d_st d_couldBe_115 d_couldHere_115 = some out → W p l e ({ frames := 2, cells := 0, slots := 0, locals := 51 } : Room) s m ([.ref p_this, .int x1, .int x2, .int x3] : List Value).toArray below meth c H locs 0 0 Q (F0 m 115 ls []) := by
                intro d_couldBe_115 d_couldHere_115 H locs hP hD hS ls hl hrun
                rw [f_X6_findCould_X115] at hrun
                refine lv_iinc (v := x5_23 + 1) (lv' := [(5, .int (x5_23 + 1)), (0, .ref p_this), (1, .int x1), (2, .int x2), (3, .int x3), (4, .int x4_13)]) hx hb dX6_findCould_115 hl (k := 5) rfl rfl (by decide) rfl (fun ls hl => ?_)
                refine lv_goto (tgt := 23) hx hb dX6_findCould_118 (by decide) ?_
                exact ih23 (x5_23 + 1) d_couldBe_115 d_couldHere_115 H locs hP hD hS ls (lv_sub hl [1, 2, 3, 4, 5, 0] rfl) hrun
              have L34 : ∀ (n9_34 : Nat) (x6_34 : Int32) (d_couldBe_34 : Int32) (d_couldHere_34 : Int32) (H : Heap) (locs : List Loc), va_P (dC, dI) vwCl [(p_this, .inr (6, [.int d_dishes, .int d_speakers, .ref p_speaker, .int d_noises, .ref p_noise, .int d_askers, .ref p_asker, .ref p_st, .ref p_images, .ref p_isKept, .long d_trace, .ref p_text, .int d_texted, .int d_cursor, .int d_start, .int d_token, .int d_number, .long d_word, .int d_isWrong, .int d_saidDishes, .ref p_saidMount, .int d_saidSpeakers, .ref p_saidSpeaker, .int d_saidNoises, .ref p_saidNoise, .int d_saidAskers, .ref p_saidAsker, .ref p_room, .int d_couldBe_34, .int d_couldHere_34])), (p_st, .inl (cI, 104, .inl d_st))] H → va_D A [(p_this, .inr (6, [.int d_dishes, .int d_speakers, .ref p_speaker, .int d_noises, .ref p_noise, .int d_askers, .ref p_asker, .ref p_st, .ref p_images, .ref p_isKept, .long d_trace, .ref p_text, .int d_texted, .int d_cursor, .int d_start, .int d_token, .int d_number, .long d_word, .int d_isWrong, .int d_saidDishes, .ref p_saidMount, .int d_saidSpeakers, .ref p_saidSpeaker, .int d_saidNoises, .ref p_saidNoise, .int d_saidAskers, .ref p_saidAsker, .ref p_room, .int d_couldBe_34, .int d_couldHere_34])), (p_st, .inl (cI, 104, .inl d_st))] → va_S A s.heap H locs → ∀ ls : Array Slot, lv_has ls 8 [(0, .ref p_this), (1, .int x1), (2, .int x2), (3, .int x3), (4, .int x4_13), (5, .int x5_23), (6, .int x6_34)] → f_X6_findCould_L34 (f_X6_findCould_X115 (f_X6_findCould_L23 (f_X6_findCould_X121 (f_X6_findCould_L13 x1 x2 x3 d_st n9_13) x1 x2 x3 x4_13 d_st) x1 x2 x3 x4_13 d_st n9_23) x1 x2 x3 x4_13 x5_23 d_st) x1 x2 x3 x4_13 x5_23 d_st n9_34 x6_34 d_couldBe_34 d_couldHere_34 = some out → W p l e ({ frames := 2, cells := 0, slots := 0, locals := 51 } : Room) s m ([.ref p_this, .int x1, .int x2, .int x3] : List Value).toArray below meth c H locs 0 0 Q (F0 m 34 ls []) := by
                intro n9_34
                induction n9_34 with
                | zero =>
                  intro x6_34 d_couldBe_34 d_couldHere_34 H locs hP hD hS ls hl hrun
                  rw [f_X6_findCould_L34] at hrun
                  cases hrun
                | succ n9_34 ih34 =>
                  intro x6_34 d_couldBe_34 d_couldHere_34 H locs hP hD hS ls hl hrun
                  rw [f_X6_findCould_L34] at hrun
                  refine lv_iload hx hb dX6_findCould_34 (lv_at hl 6 rfl) ?_
                  refine lv_bipush (v := 24) hx hb dX6_findCould_36 (by decide) ?_
                  refine lv_icmp_ge (tgt := 115) hx hb dX6_findCould_38 (by decide) (fun c_38 => ?_) (fun c_38 => ?_)
                  · rw [if_pos c_38] at hrun
                    exact X115 d_couldBe_34 d_couldHere_34 H locs hP hD hS ls (lv_sub hl [0, 1, 2, 3, 4, 5] rfl) hrun
                  · rw [if_neg c_38] at hrun
                    refine lv_aload_n hx hb dX6_findCould_41 rfl (lv_at hl 0 rfl) ?_
                    refine lv_iload_n hx hb dX6_findCould_42 rfl (lv_at hl 1 rfl) ?_
                    refine lv_iload hx hb dX6_findCould_43 (lv_at hl 4 rfl) ?_
                    refine lv_iload hx hb dX6_findCould_45 (lv_at hl 5 rfl) ?_
                    refine lv_iload hx hb dX6_findCould_47 (lv_at hl 6 rfl) ?_
                    obtain ⟨q49, hq49, hrun⟩ := bind_out hrun
                    have hPc : va_P (dC, dI) vwCl [(p_this, .inr (6, [.int d_dishes, .int d_speakers, .ref p_speaker, .int d_noises, .ref p_noise, .int d_askers, .ref p_asker, .ref p_st, .ref p_images, .ref p_isKept, .long d_trace, .ref p_text, .int d_texted, .int d_cursor, .int d_start, .int d_token, .int d_number, .long d_word, .int d_isWrong, .int d_saidDishes, .ref p_saidMount, .int d_saidSpeakers, .ref p_saidSpeaker, .int d_saidNoises, .ref p_saidNoise, .int d_saidAskers, .ref p_saidAsker, .ref p_room, .int d_couldBe_34, .int d_couldHere_34])), (p_st, .inl (cI, 104, .inl d_st))] H := hP.sub [0, 1] rfl
                    have hDc : va_D A [(p_this, .inr (6, [.int d_dishes, .int d_speakers, .ref p_speaker, .int d_noises, .ref p_noise, .int d_askers, .ref p_asker, .ref p_st, .ref p_images, .ref p_isKept, .long d_trace, .ref p_text, .int d_texted, .int d_cursor, .int d_start, .int d_token, .int d_number, .long d_word, .int d_isWrong, .int d_saidDishes, .ref p_saidMount, .int d_saidSpeakers, .ref p_saidSpeaker, .int d_saidNoises, .ref p_saidNoise, .int d_saidAskers, .ref p_saidAsker, .ref p_room, .int d_couldBe_34, .int d_couldHere_34])), (p_st, .inl (cI, 104, .inl d_st))] := hD.sub [0, 1] (by decide) rfl
                    have hFc := va_free (wc := [(p_this, .inr (6, [.int d_dishes, .int d_speakers, .ref p_speaker, .int d_noises, .ref p_noise, .int d_askers, .ref p_asker, .ref p_st, .ref p_images, .ref p_isKept, .long d_trace, .ref p_text, .int d_texted, .int d_cursor, .int d_start, .int d_token, .int d_number, .long d_word, .int d_isWrong, .int d_saidDishes, .ref p_saidMount, .int d_saidSpeakers, .ref p_saidSpeaker, .int d_saidNoises, .ref p_saidNoise, .int d_saidAskers, .ref p_saidAsker, .ref p_room, .int d_couldBe_34, .int d_couldHere_34])), (p_st, .inl (cI, 104, .inl d_st))]) hD hS hA [0, 1] rfl
                    refine va_calli (va_runV (As := [.int x1, .int x4_13, .int x5_23, .int x6_34]) (rest := []) ⟨hx, hb, hml, hown, hts⟩ (c_X6_maySpeak l dC dI cI cZ H.size p_asker p_images p_isKept p_noise p_room p_saidAsker p_saidMount p_saidNoise p_saidSpeaker p_speaker p_st p_text p_this d_dishes d_speakers d_noises d_askers d_trace d_texted d_cursor d_start d_token d_number d_word d_isWrong d_saidDishes d_saidSpeakers d_saidNoises d_saidAskers d_couldBe_34 d_couldHere_34 d_st x1 x4_13 x5_23 x6_34 q49 hq49) (cwV 4 hts gX6_findCould_X6_maySpeak rfl rfl rfl (by decide +kernel) ⟨Nat.le_of_ble_eq_true rfl, Nat.le_of_ble_eq_true rfl⟩) ⟨fun a U g mk q => ⟨q.1, PC.mv q.2⟩, va_recv hK hP (ci := 6) (q0 := 0) rfl rfl, fun U hU hW => ⟨rfl, PC.of hU hW hPc hK hDc hN⟩⟩ rfl rfl hl.1 rfl (lv_room (Nat.le_of_ble_eq_true rfl)) dX6_findCould_49 ⟨Nat.zero_le _, Nat.zero_le _⟩) hS (fun q _ h => hFc q h) hFc (fun r_49 u t H1 locs ht hvm hw hB hz1 hk1 hS => ?_)
                    obtain ⟨hP1, hD1⟩ := hB
                    try dsimp only at hw
                    rw [hw]
                    rw [ht] at hP1
                    have hP : va_P (dC, dI) vwCl [(p_this, .inr (6, [.int d_dishes, .int d_speakers, .ref p_speaker, .int d_noises, .ref p_noise, .int d_askers, .ref p_asker, .ref p_st, .ref p_images, .ref p_isKept, .long d_trace, .ref p_text, .int d_texted, .int d_cursor, .int d_start, .int d_token, .int d_number, .long d_word, .int d_isWrong, .int d_saidDishes, .ref p_saidMount, .int d_saidSpeakers, .ref p_saidSpeaker, .int d_saidNoises, .ref p_saidNoise, .int d_saidAskers, .ref p_saidAsker, .ref p_room, .int d_couldBe_34, .int d_couldHere_34])), (p_st, .inl (cI, 104, .inl d_st))] H1 := join_ro hP hD [0, 1] rfl hk1 hP1
                    clear hPc hDc hFc hk1 hz1 hP1 hD1 ht hvm
                    generalize H1 = H at hP hS ⊢
                    refine lv_istore (lv' := [(7, .int q49), (0, .ref p_this), (1, .int x1), (2, .int x2), (3, .int x3), (4, .int x4_13), (5, .int x5_23), (6, .int x6_34)]) hx hb dX6_findCould_52 hl (by decide) rfl (fun ls hl => ?_)
                    refine lv_aload_n hx hb dX6_findCould_54 rfl (lv_at hl 1 rfl) ?_
                    refine lv_dup hx hb dX6_findCould_55 rfl ?_
                    refine va_get (D := (dC, dI)) (ci := 6) (v := .int d_couldBe_34) (C := RX6) (T := TX6) (N := 30) hx hb hts iwX6 hown hK hP 0 rfl rfl 28 (by decide) (hts (.fieldLink RX6 197 "SkyListenersModel" "couldBe" "I") (by decide +kernel)) (fun _ h9 => h9) rfl dX6_findCould_56 ?_
                    refine lv_iload hx hb dX6_findCould_59 (lv_at hl 0 rfl) ?_
                    have J69 : ∀ (t2_69 : Int32) (H : Heap) (locs : List Loc), va_P (dC, dI) vwCl [(p_this, .inr (6, [.int d_dishes, .int d_speakers, .ref p_speaker, .int d_noises, .ref p_noise, .int d_askers, .ref p_asker, .ref p_st, .ref p_images, .ref p_isKept, .long d_trace, .ref p_text, .int d_texted, .int d_cursor, .int d_start, .int d_token, .int d_number, .long d_word, .int d_isWrong, .int d_saidDishes, .ref p_saidMount, .int d_saidSpeakers, .ref p_saidSpeaker, .int d_saidNoises, .ref p_saidNoise, .int d_saidAskers, .ref p_saidAsker, .ref p_room, .int d_couldBe_34, .int d_couldHere_34])), (p_st, .inl (cI, 104, .inl d_st))] H → va_D A [(p_this, .inr (6, [.int d_dishes, .int d_speakers, .ref p_speaker, .int d_noises, .ref p_noise, .int d_askers, .ref p_asker, .ref p_st, .ref p_images, .ref p_isKept, .long d_trace, .ref p_text, .int d_texted, .int d_cursor, .int d_start, .int d_token, .int d_number, .long d_word, .int d_isWrong, .int d_saidDishes, .ref p_saidMount, .int d_saidSpeakers, .ref p_saidSpeaker, .int d_saidNoises, .ref p_saidNoise, .int d_saidAskers, .ref p_saidAsker, .ref p_room, .int d_couldBe_34, .int d_couldHere_34])), (p_st, .inl (cI, 104, .inl d_st))] → va_S A s.heap H locs → ∀ ls : Array Slot, lv_has ls 8 [(0, .ref p_this), (1, .int x1), (2, .int x2), (3, .int x3), (4, .int x4_13), (5, .int x5_23), (6, .int x6_34), (7, .int q49)] → f_X6_findCould_J69 (f_X6_findCould_L34 (f_X6_findCould_X115 (f_X6_findCould_L23 (f_X6_findCould_X121 (f_X6_findCould_L13 x1 x2 x3 d_st n9_13) x1 x2 x3 x4_13 d_st) x1 x2 x3 x4_13 d_st n9_23) x1 x2 x3 x4_13 x5_23 d_st) x1 x2 x3 x4_13 x5_23 d_st n9_34) x1 x2 x3 x4_13 x5_23 x6_34 q49 d_couldBe_34 d_couldBe_34 d_couldHere_34 d_st t2_69 = some out → W p l e ({ frames := 2, cells := 0, slots := 0, locals := 51 } : Room) s m ([.ref p_this, .int x1, .int x2, .int x3] : List Value).toArray below meth c H locs 0 0 Q (F0 m 69 ls [.int t2_69, .int d_couldBe_34, .ref p_this]) := by
                      intro t2_69 H locs hP hD hS ls hl hrun
                      rw [f_X6_findCould_J69] at hrun
                      refine lv_iadd hx hb dX6_findCould_69 ?_
                      refine va_put (D := (dC, dI)) (ci := 6) (v := .int (d_couldBe_34 + t2_69)) (ty := .int) (C := RX6) (T := TX6) (N := 30) hx hb hts iwX6 tyX6 tyX6_ok nmX6 hown hK hP hD hS 0 rfl rfl 28 (by decide) (hts (.fieldLink RX6 197 "SkyListenersModel" "couldBe" "I") (by decide +kernel)) (fun _ h9 => h9) rfl (by decide +kernel) rfl rfl (Nat.le_of_ble_eq_true rfl) dX6_findCould_70 (fun H locs hP hD hS => ?_)
                      have hP : va_P (dC, dI) vwCl [(p_this, .inr (6, [.int d_dishes, .int d_speakers, .ref p_speaker, .int d_noises, .ref p_noise, .int d_askers, .ref p_asker, .ref p_st, .ref p_images, .ref p_isKept, .long d_trace, .ref p_text, .int d_texted, .int d_cursor, .int d_start, .int d_token, .int d_number, .long d_word, .int d_isWrong, .int d_saidDishes, .ref p_saidMount, .int d_saidSpeakers, .ref p_saidSpeaker, .int d_saidNoises, .ref p_saidNoise, .int d_saidAskers, .ref p_saidAsker, .ref p_room, .int (d_couldBe_34 + t2_69), .int d_couldHere_34])), (p_st, .inl (cI, 104, .inl d_st))] H := hP
                      have hD : va_D A [(p_this, .inr (6, [.int d_dishes, .int d_speakers, .ref p_speaker, .int d_noises, .ref p_noise, .int d_askers, .ref p_asker, .ref p_st, .ref p_images, .ref p_isKept, .long d_trace, .ref p_text, .int d_texted, .int d_cursor, .int d_start, .int d_token, .int d_number, .long d_word, .int d_isWrong, .int d_saidDishes, .ref p_saidMount, .int d_saidSpeakers, .ref p_saidSpeaker, .int d_saidNoises, .ref p_saidNoise, .int d_saidAskers, .ref p_saidAsker, .ref p_room, .int (d_couldBe_34 + t2_69), .int d_couldHere_34])), (p_st, .inl (cI, 104, .inl d_st))] := hD
                      refine lv_aload_n hx hb dX6_findCould_73 rfl (lv_at hl 0 rfl) ?_
                      refine lv_dup hx hb dX6_findCould_74 rfl ?_
                      refine va_get (D := (dC, dI)) (ci := 6) (v := .int d_couldHere_34) (C := RX6) (T := TX6) (N := 30) hx hb hts iwX6 hown hK hP 0 rfl rfl 29 (by decide) (hts (.fieldLink RX6 200 "SkyListenersModel" "couldHere" "I") (by decide +kernel)) (fun _ h9 => h9) rfl dX6_findCould_75 ?_
                      refine lv_iload hx hb dX6_findCould_78 (lv_at hl 7 rfl) ?_
                      have J105 : ∀ (t2_105 : Int32) (H : Heap) (locs : List Loc), va_P (dC, dI) vwCl [(p_this, .inr (6, [.int d_dishes, .int d_speakers, .ref p_speaker, .int d_noises, .ref p_noise, .int d_askers, .ref p_asker, .ref p_st, .ref p_images, .ref p_isKept, .long d_trace, .ref p_text, .int d_texted, .int d_cursor, .int d_start, .int d_token, .int d_number, .long d_word, .int d_isWrong, .int d_saidDishes, .ref p_saidMount, .int d_saidSpeakers, .ref p_saidSpeaker, .int d_saidNoises, .ref p_saidNoise, .int d_saidAskers, .ref p_saidAsker, .ref p_room, .int (d_couldBe_34 + t2_69), .int d_couldHere_34])), (p_st, .inl (cI, 104, .inl d_st))] H → va_D A [(p_this, .inr (6, [.int d_dishes, .int d_speakers, .ref p_speaker, .int d_noises, .ref p_noise, .int d_askers, .ref p_asker, .ref p_st, .ref p_images, .ref p_isKept, .long d_trace, .ref p_text, .int d_texted, .int d_cursor, .int d_start, .int d_token, .int d_number, .long d_word, .int d_isWrong, .int d_saidDishes, .ref p_saidMount, .int d_saidSpeakers, .ref p_saidSpeaker, .int d_saidNoises, .ref p_saidNoise, .int d_saidAskers, .ref p_saidAsker, .ref p_room, .int (d_couldBe_34 + t2_69), .int d_couldHere_34])), (p_st, .inl (cI, 104, .inl d_st))] → va_S A s.heap H locs → ∀ ls : Array Slot, lv_has ls 8 [(0, .ref p_this), (1, .int x1), (2, .int x2), (3, .int x3), (4, .int x4_13), (5, .int x5_23), (6, .int x6_34)] → f_X6_findCould_J105 (f_X6_findCould_L34 (f_X6_findCould_X115 (f_X6_findCould_L23 (f_X6_findCould_X121 (f_X6_findCould_L13 x1 x2 x3 d_st n9_13) x1 x2 x3 x4_13 d_st) x1 x2 x3 x4_13 d_st n9_23) x1 x2 x3 x4_13 x5_23 d_st) x1 x2 x3 x4_13 x5_23 d_st n9_34) x1 x2 x3 x4_13 x5_23 x6_34 d_couldHere_34 (d_couldBe_34 + t2_69) d_couldHere_34 d_st t2_105 = some out → W p l e ({ frames := 2, cells := 0, slots := 0, locals := 51 } : Room) s m ([.ref p_this, .int x1, .int x2, .int x3] : List Value).toArray below meth c H locs 0 0 Q (F0 m 105 ls [.int t2_105, .int d_couldHere_34, .ref p_this]) := by
                        intro t2_105 H locs hP hD hS ls hl hrun
                        rw [f_X6_findCould_J105] at hrun
                        refine lv_iadd hx hb dX6_findCould_105 ?_
                        refine va_put (D := (dC, dI)) (ci := 6) (v := .int (d_couldHere_34 + t2_105)) (ty := .int) (C := RX6) (T := TX6) (N := 30) hx hb hts iwX6 tyX6 tyX6_ok nmX6 hown hK hP hD hS 0 rfl rfl 29 (by decide) (hts (.fieldLink RX6 200 "SkyListenersModel" "couldHere" "I") (by decide +kernel)) (fun _ h9 => h9) rfl (by decide +kernel) rfl rfl (Nat.le_of_ble_eq_true rfl) dX6_findCould_106 (fun H locs hP hD hS => ?_)
                        have hP : va_P (dC, dI) vwCl [(p_this, .inr (6, [.int d_dishes, .int d_speakers, .ref p_speaker, .int d_noises, .ref p_noise, .int d_askers, .ref p_asker, .ref p_st, .ref p_images, .ref p_isKept, .long d_trace, .ref p_text, .int d_texted, .int d_cursor, .int d_start, .int d_token, .int d_number, .long d_word, .int d_isWrong, .int d_saidDishes, .ref p_saidMount, .int d_saidSpeakers, .ref p_saidSpeaker, .int d_saidNoises, .ref p_saidNoise, .int d_saidAskers, .ref p_saidAsker, .ref p_room, .int (d_couldBe_34 + t2_69), .int (d_couldHere_34 + t2_105)])), (p_st, .inl (cI, 104, .inl d_st))] H := hP
                        have hD : va_D A [(p_this, .inr (6, [.int d_dishes, .int d_speakers, .ref p_speaker, .int d_noises, .ref p_noise, .int d_askers, .ref p_asker, .ref p_st, .ref p_images, .ref p_isKept, .long d_trace, .ref p_text, .int d_texted, .int d_cursor, .int d_start, .int d_token, .int d_number, .long d_word, .int d_isWrong, .int d_saidDishes, .ref p_saidMount, .int d_saidSpeakers, .ref p_saidSpeaker, .int d_saidNoises, .ref p_saidNoise, .int d_saidAskers, .ref p_saidAsker, .ref p_room, .int (d_couldBe_34 + t2_69), .int (d_couldHere_34 + t2_105)])), (p_st, .inl (cI, 104, .inl d_st))] := hD
                        refine lv_iinc (v := x6_34 + 1) (lv' := [(6, .int (x6_34 + 1)), (0, .ref p_this), (1, .int x1), (2, .int x2), (3, .int x3), (4, .int x4_13), (5, .int x5_23)]) hx hb dX6_findCould_109 hl (k := 6) rfl rfl (by decide) rfl (fun ls hl => ?_)
                        refine lv_goto (tgt := 34) hx hb dX6_findCould_112 (by decide) ?_
                        exact ih34 (x6_34 + 1) (d_couldBe_34 + t2_69) (d_couldHere_34 + t2_105) H locs hP hD hS ls (lv_sub hl [1, 2, 3, 4, 5, 6, 0] rfl) hrun
                      refine lv_if_eq (tgt := 104) hx hb dX6_findCould_80 (by decide) (fun c_80 => ?_) (fun c_80 => ?_)
                      · rw [if_pos c_80] at hrun
                        refine lv_iconst (v := 0) hx hb dX6_findCould_104 (by decide) ?_
                        exact J105 0 H locs hP hD hS ls (lv_sub hl [0, 1, 2, 3, 4, 5, 6] rfl) hrun
                      · rw [if_neg c_80] at hrun
                        refine lv_iload hx hb dX6_findCould_83 (lv_at hl 4 rfl) ?_
                        refine lv_iload_n hx hb dX6_findCould_85 rfl (lv_at hl 2 rfl) ?_
                        refine lv_icmp_ne (tgt := 104) hx hb dX6_findCould_86 (by decide) (fun c_86 => ?_) (fun c_86 => ?_)
                        · rw [if_neg c_86] at hrun
                          refine lv_iconst (v := 0) hx hb dX6_findCould_104 (by decide) ?_
                          exact J105 0 H locs hP hD hS ls (lv_sub hl [0, 1, 2, 3, 4, 5, 6] rfl) hrun
                        · rw [if_pos c_86] at hrun
                          refine lv_iload_n hx hb dX6_findCould_89 rfl (lv_at hl 3 rfl) ?_
                          refine lv_iload hx hb dX6_findCould_90 (lv_at hl 5 rfl) ?_
                          refine lv_iload hx hb dX6_findCould_92 (lv_at hl 6 rfl) ?_
                          have hPc : va_P (dC, dI) vwCl [] H := hP.sub [] rfl
                          have hDc : va_D A [] := hD.sub [] (by decide) rfl
                          have hFc := va_free (wc := []) hD hS hA [] rfl
                          refine va_calli (va_runS (As := [.int x3, .int x5_23, .int x6_34]) (rest := [.int d_couldHere_34, .ref p_this]) ⟨hx, hb, hml, hown, hts⟩ (c_X6_in l dC dI cI cZ H.size x3 x5_23 x6_34 (f_X6_in x3 x5_23 x6_34) rfl) (va_cwS 3 hts gX6_findCould_X6_in rfl rfl rfl (by decide +kernel) ⟨Nat.le_of_ble_eq_true rfl, Nat.le_of_ble_eq_true rfl⟩) ⟨fun a U g mk q => ⟨q.1, PC.mv q.2⟩, fun U hU hW => ⟨rfl, PC.of hU hW hPc hK hDc hN⟩⟩ rfl rfl hl.1 rfl (lv_room (Nat.le_of_ble_eq_true rfl)) dX6_findCould_94 ⟨Nat.zero_le _, Nat.zero_le _⟩) hS (fun q _ h => hFc q h) hFc (fun r_94 u t H1 locs ht hvm hw hB hz1 hk1 hS => ?_)
                          obtain ⟨hP1, hD1⟩ := hB
                          try dsimp only at hw
                          rw [hw]
                          rw [ht] at hP1
                          have hP : va_P (dC, dI) vwCl [(p_this, .inr (6, [.int d_dishes, .int d_speakers, .ref p_speaker, .int d_noises, .ref p_noise, .int d_askers, .ref p_asker, .ref p_st, .ref p_images, .ref p_isKept, .long d_trace, .ref p_text, .int d_texted, .int d_cursor, .int d_start, .int d_token, .int d_number, .long d_word, .int d_isWrong, .int d_saidDishes, .ref p_saidMount, .int d_saidSpeakers, .ref p_saidSpeaker, .int d_saidNoises, .ref p_saidNoise, .int d_saidAskers, .ref p_saidAsker, .ref p_room, .int (d_couldBe_34 + t2_69), .int d_couldHere_34])), (p_st, .inl (cI, 104, .inl d_st))] H1 := join_ro hP hD [] rfl hk1 hP1
                          clear hPc hDc hFc hk1 hz1 hP1 hD1 ht hvm
                          generalize H1 = H at hP hS ⊢
                          refine lv_if_eq (tgt := 104) hx hb dX6_findCould_97 (by decide) (fun c_97 => ?_) (fun c_97 => ?_)
                          · rw [if_pos c_97] at hrun
                            refine lv_iconst (v := 0) hx hb dX6_findCould_104 (by decide) ?_
                            exact J105 0 H locs hP hD hS ls (lv_sub hl [0, 1, 2, 3, 4, 5, 6] rfl) hrun
                          · rw [if_neg c_97] at hrun
                            refine lv_iconst (v := 1) hx hb dX6_findCould_100 (by decide) ?_
                            refine lv_goto (tgt := 105) hx hb dX6_findCould_101 (by decide) ?_
                            exact J105 1 H locs hP hD hS ls (lv_sub hl [0, 1, 2, 3, 4, 5, 6] rfl) hrun
                    refine lv_if_eq (tgt := 68) hx hb dX6_findCould_61 (by decide) (fun c_61 => ?_) (fun c_61 => ?_)
                    · rw [if_pos c_61] at hrun
                      refine lv_iconst (v := 0) hx hb dX6_findCould_68 (by decide) ?_
                      exact J69 0 H locs hP hD hS ls (lv_sub hl [1, 2, 3, 4, 5, 6, 7, 0] rfl) hrun
                    · rw [if_neg c_61] at hrun
                      refine lv_iconst (v := 1) hx hb dX6_findCould_64 (by decide) ?_
                      refine lv_goto (tgt := 69) hx hb dX6_findCould_65 (by decide) ?_
                      exact J69 1 H locs hP hD hS ls (lv_sub hl [1, 2, 3, 4, 5, 6, 7, 0] rfl) hrun
              exact L34 FU x5_23 d_couldBe_23 d_couldHere_23 H locs hP hD hS ls (lv_sub hl [1, 2, 3, 4, 5, 6, 0] rfl) hrun
        exact L23 FU 0 d_couldBe_13 d_couldHere_13 H locs hP hD hS ls (lv_sub hl [1, 2, 3, 4, 5, 0] rfl) hrun
  exact L13 FU 0 0 0 H locs hP hD hS ls (lv_sub hl [1, 2, 3, 4, 0] rfl) hrun
-- SkyListenersModel.could
def f_X6_could (d_couldBe : Int32) (d_couldHere : Int32) (d_st : Nat → Int32) (x1 : Int32) : Option (Int32 × Int32 × Int32) := (if (f_X6_isNote x1) = 0 then (some ((-1), d_couldBe, d_couldHere)) else ((f_X6_findCould d_couldBe d_couldHere d_st x1 0 0).bind fun q13 => (some (q13.1, q13.1, q13.2))))
set_option maxHeartbeats 4000000 in
set_option maxRecDepth 100000 in
theorem c_X6_could (l : Launch) (dC : Nat → ClassId) (dI : Nat → Nat → Nat) (cI cZ : ClassId) (sz : Nat) (p_asker p_images p_isKept p_noise p_room p_saidAsker p_saidMount p_saidNoise p_saidSpeaker p_speaker p_st p_text p_this : Nat) (d_dishes : Int32) (d_speakers : Int32) (d_noises : Int32) (d_askers : Int32) (d_trace : Int64) (d_texted : Int32) (d_cursor : Int32) (d_start : Int32) (d_token : Int32) (d_number : Int32) (d_word : Int64) (d_isWrong : Int32) (d_saidDishes : Int32) (d_saidSpeakers : Int32) (d_saidNoises : Int32) (d_saidAskers : Int32) (d_couldBe : Int32) (d_couldHere : Int32) (d_st : Nat → Int32) (x1 : Int32) (out : Int32 × Int32 × Int32) (hrun : f_X6_could d_couldBe d_couldHere d_st x1 = some out) : Met l yX6_could wsX6_could ({ frames := 3, cells := 0, slots := 0, locals := 78 } : Room) (va_Pc [.ref p_this, .int x1] (PC dC dI cI cZ sz ([(p_this, .inr (6, [.int d_dishes, .int d_speakers, .ref p_speaker, .int d_noises, .ref p_noise, .int d_askers, .ref p_asker, .ref p_st, .ref p_images, .ref p_isKept, .long d_trace, .ref p_text, .int d_texted, .int d_cursor, .int d_start, .int d_token, .int d_number, .long d_word, .int d_isWrong, .int d_saidDishes, .ref p_saidMount, .int d_saidSpeakers, .ref p_saidSpeaker, .int d_saidNoises, .ref p_saidNoise, .int d_saidAskers, .ref p_saidAsker, .ref p_room, .int d_couldBe, .int d_couldHere])), (p_st, .inl (cI, 104, .inl d_st))] : va_W))) (va_Qi (fun r (_ : Unit) => r = out.1) (fun _ t => va_P (dC, dI) vwCl [(p_this, .inr (6, [.int d_dishes, .int d_speakers, .ref p_speaker, .int d_noises, .ref p_noise, .int d_askers, .ref p_asker, .ref p_st, .ref p_images, .ref p_isKept, .long d_trace, .ref p_text, .int d_texted, .int d_cursor, .int d_start, .int d_token, .int d_number, .long d_word, .int d_isWrong, .int d_saidDishes, .ref p_saidMount, .int d_saidSpeakers, .ref p_saidSpeaker, .int d_saidNoises, .ref p_saidNoise, .int d_saidAskers, .ref p_saidAsker, .ref p_room, .int out.2.1, .int out.2.2])), (p_st, .inl (cI, 104, .inl d_st))] t.heap ∧ va_D (va_A ([(p_this, .inr (6, [.int d_dishes, .int d_speakers, .ref p_speaker, .int d_noises, .ref p_noise, .int d_askers, .ref p_asker, .ref p_st, .ref p_images, .ref p_isKept, .long d_trace, .ref p_text, .int d_texted, .int d_cursor, .int d_start, .int d_token, .int d_number, .long d_word, .int d_isWrong, .int d_saidDishes, .ref p_saidMount, .int d_saidSpeakers, .ref p_saidSpeaker, .int d_saidNoises, .ref p_saidNoise, .int d_saidAskers, .ref p_saidAsker, .ref p_room, .int d_couldBe, .int d_couldHere])), (p_st, .inl (cI, 104, .inl d_st))] : va_W) sz) [(p_this, .inr (6, [.int d_dishes, .int d_speakers, .ref p_speaker, .int d_noises, .ref p_noise, .int d_askers, .ref p_asker, .ref p_st, .ref p_images, .ref p_isKept, .long d_trace, .ref p_text, .int d_texted, .int d_cursor, .int d_start, .int d_token, .int d_number, .long d_word, .int d_isWrong, .int d_saidDishes, .ref p_saidMount, .int d_saidSpeakers, .ref p_saidSpeaker, .int d_saidNoises, .ref p_saidNoise, .int d_saidAskers, .ref p_saidAsker, .ref p_room, .int out.2.1, .int out.2.2])), (p_st, .inl (cI, 104, .inl d_st))]) (va_A ([(p_this, .inr (6, [.int d_dishes, .int d_speakers, .ref p_speaker, .int d_noises, .ref p_noise, .int d_askers, .ref p_asker, .ref p_st, .ref p_images, .ref p_isKept, .long d_trace, .ref p_text, .int d_texted, .int d_cursor, .int d_start, .int d_token, .int d_number, .long d_word, .int d_isWrong, .int d_saidDishes, .ref p_saidMount, .int d_saidSpeakers, .ref p_saidSpeaker, .int d_saidNoises, .ref p_saidNoise, .int d_saidAskers, .ref p_saidAsker, .ref p_room, .int d_couldBe, .int d_couldHere])), (p_st, .inl (cI, 104, .inl d_st))] : va_W) sz)) 0 0 (va_A ([(p_this, .inr (6, [.int d_dishes, .int d_speakers, .ref p_speaker, .int d_noises, .ref p_noise, .int d_askers, .ref p_asker, .ref p_st, .ref p_images, .ref p_isKept, .long d_trace, .ref p_text, .int d_texted, .int d_cursor, .int d_start, .int d_token, .int d_number, .long d_word, .int d_isWrong, .int d_saidDishes, .ref p_saidMount, .int d_saidSpeakers, .ref p_saidSpeaker, .int d_saidNoises, .ref p_saidNoise, .int d_saidAskers, .ref p_saidAsker, .ref p_room, .int d_couldBe, .int d_couldHere])), (p_st, .inl (cI, 104, .inl d_st))] : va_W) sz) := by
  refine Met.ofW (cc := cX6_could) (maxL := 2) (ret := (some .int)) (by decide) rfl ?_
  intro p e s m args below meth c s₁ B hml hv
  obtain ⟨rfl, hsz, hP, hK, hD0, hN⟩ := hv
  have hx := B.exec
  have hb := B.bytes
  have hr := B.returns
  have hts := atoms_spec (ws := wsX6_could) B.pre
  have hown : s.vm.findClass RX6 = some m.cls := findClass_of_methodNamed B.named
  have hlocks := B.notSynchronized
  subst hsz
  have hD := hD0.self (sz := s.heap.size)
  generalize hAe : va_A ([(p_this, .inr (6, [.int d_dishes, .int d_speakers, .ref p_speaker, .int d_noises, .ref p_noise, .int d_askers, .ref p_asker, .ref p_st, .ref p_images, .ref p_isKept, .long d_trace, .ref p_text, .int d_texted, .int d_cursor, .int d_start, .int d_token, .int d_number, .long d_word, .int d_isWrong, .int d_saidDishes, .ref p_saidMount, .int d_saidSpeakers, .ref p_saidSpeaker, .int d_saidNoises, .ref p_saidNoise, .int d_saidAskers, .ref p_saidAsker, .ref p_room, .int d_couldBe, .int d_couldHere])), (p_st, .inl (cI, 104, .inl d_st))] : va_W) s.heap.size = A at hD ⊢
  have hA : ∀ q : Nat, s.heap.size ≤ q → A q := fun q h => by rw [← hAe]; exact Or.inr h
  have hS : va_S A s.heap s.heap [] := va_S.rf
  refine W_abs (fun Q hQ => ?_)
  have hl := lv_entry ([.ref p_this, .int x1]) (n := 2) (Nat.le_of_ble_eq_true rfl)
  rw [lg_entry_eq]
  generalize (lg_sl ([.ref p_this, .int x1]) ++ List.replicate (2 - (lg_sl ([.ref p_this, .int x1])).length) Slot.unset).toArray = ls at hl ⊢
  have hl : lv_has ls 2 [(0, .ref p_this), (1, .int x1)] := hl
  rw [f_X6_could] at hrun
  refine W_start (ws := [(p_this, .inr (6, [.int d_dishes, .int d_speakers, .ref p_speaker, .int d_noises, .ref p_noise, .int d_askers, .ref p_asker, .ref p_st, .ref p_images, .ref p_isKept, .long d_trace, .ref p_text, .int d_texted, .int d_cursor, .int d_start, .int d_token, .int d_number, .long d_word, .int d_isWrong, .int d_saidDishes, .ref p_saidMount, .int d_saidSpeakers, .ref p_saidSpeaker, .int d_saidNoises, .ref p_saidNoise, .int d_saidAskers, .ref p_saidAsker, .ref p_room, .int d_couldBe, .int d_couldHere])), (p_st, .inl (cI, 104, .inl d_st))]) hP hS (fun H locs hP hS => ?_)
  have iwX6 : ∀ w ∈ wsX60, w ∈ wsX6_could := by decide +kernel
  refine lv_iload_n hx hb dX6_could_0 rfl (lv_at hl 1 rfl) ?_
  have hPc : va_P (dC, dI) vwCl [] H := hP.sub [] rfl
  have hDc : va_D A [] := hD.sub [] (by decide) rfl
  have hFc := va_free (wc := []) hD hS hA [] rfl
  refine va_calli (va_runS (As := [.int x1]) (rest := []) ⟨hx, hb, hml, hown, hts⟩ (c_X6_isNote l dC dI cI cZ H.size x1 (f_X6_isNote x1) rfl) (va_cwS 1 hts gX6_could_X6_isNote rfl rfl rfl (by decide +kernel) ⟨Nat.le_of_ble_eq_true rfl, Nat.le_of_ble_eq_true rfl⟩) ⟨fun a U g mk q => ⟨q.1, PC.mv q.2⟩, fun U hU hW => ⟨rfl, PC.of hU hW hPc hK hDc hN⟩⟩ rfl rfl hl.1 rfl (lv_room (Nat.le_of_ble_eq_true rfl)) dX6_could_1 ⟨Nat.zero_le _, Nat.zero_le _⟩) hS (fun q _ h => hFc q h) hFc (fun r_1 u t H1 locs ht hvm hw hB hz1 hk1 hS => ?_)
  obtain ⟨hP1, hD1⟩ := hB
  try dsimp only at hw
  rw [hw]
  rw [ht] at hP1
  have hP : va_P (dC, dI) vwCl [(p_this, .inr (6, [.int d_dishes, .int d_speakers, .ref p_speaker, .int d_noises, .ref p_noise, .int d_askers, .ref p_asker, .ref p_st, .ref p_images, .ref p_isKept, .long d_trace, .ref p_text, .int d_texted, .int d_cursor, .int d_start, .int d_token, .int d_number, .long d_word, .int d_isWrong, .int d_saidDishes, .ref p_saidMount, .int d_saidSpeakers, .ref p_saidSpeaker, .int d_saidNoises, .ref p_saidNoise, .int d_saidAskers, .ref p_saidAsker, .ref p_room, .int d_couldBe, .int d_couldHere])), (p_st, .inl (cI, 104, .inl d_st))] H1 := join_ro hP hD [] rfl hk1 hP1
  clear hPc hDc hFc hk1 hz1 hP1 hD1 ht hvm
  generalize H1 = H at hP hS ⊢
  refine lv_if_ne (tgt := 9) hx hb dX6_could_4 (by decide) (fun c_4 => ?_) (fun c_4 => ?_)
  · rw [if_neg c_4] at hrun
    refine lv_aload_n hx hb dX6_could_9 rfl (lv_at hl 0 rfl) ?_
    refine lv_iload_n hx hb dX6_could_10 rfl (lv_at hl 1 rfl) ?_
    refine lv_iconst (v := 0) hx hb dX6_could_11 (by decide) ?_
    refine lv_iconst (v := 0) hx hb dX6_could_12 (by decide) ?_
    obtain ⟨q13, hq13, hrun⟩ := bind_out hrun
    have hPc : va_P (dC, dI) vwCl [(p_this, .inr (6, [.int d_dishes, .int d_speakers, .ref p_speaker, .int d_noises, .ref p_noise, .int d_askers, .ref p_asker, .ref p_st, .ref p_images, .ref p_isKept, .long d_trace, .ref p_text, .int d_texted, .int d_cursor, .int d_start, .int d_token, .int d_number, .long d_word, .int d_isWrong, .int d_saidDishes, .ref p_saidMount, .int d_saidSpeakers, .ref p_saidSpeaker, .int d_saidNoises, .ref p_saidNoise, .int d_saidAskers, .ref p_saidAsker, .ref p_room, .int d_couldBe, .int d_couldHere])), (p_st, .inl (cI, 104, .inl d_st))] H := hP.sub [0, 1] rfl
    have hDc : va_D A [(p_this, .inr (6, [.int d_dishes, .int d_speakers, .ref p_speaker, .int d_noises, .ref p_noise, .int d_askers, .ref p_asker, .ref p_st, .ref p_images, .ref p_isKept, .long d_trace, .ref p_text, .int d_texted, .int d_cursor, .int d_start, .int d_token, .int d_number, .long d_word, .int d_isWrong, .int d_saidDishes, .ref p_saidMount, .int d_saidSpeakers, .ref p_saidSpeaker, .int d_saidNoises, .ref p_saidNoise, .int d_saidAskers, .ref p_saidAsker, .ref p_room, .int d_couldBe, .int d_couldHere])), (p_st, .inl (cI, 104, .inl d_st))] := hD.sub [0, 1] (by decide) rfl
    have hFc := va_free (wc := [(p_this, .inr (6, [.int d_dishes, .int d_speakers, .ref p_speaker, .int d_noises, .ref p_noise, .int d_askers, .ref p_asker, .ref p_st, .ref p_images, .ref p_isKept, .long d_trace, .ref p_text, .int d_texted, .int d_cursor, .int d_start, .int d_token, .int d_number, .long d_word, .int d_isWrong, .int d_saidDishes, .ref p_saidMount, .int d_saidSpeakers, .ref p_saidSpeaker, .int d_saidNoises, .ref p_saidNoise, .int d_saidAskers, .ref p_saidAsker, .ref p_room, .int d_couldBe, .int d_couldHere])), (p_st, .inl (cI, 104, .inl d_st))]) hD hS hA [0, 1] rfl
    refine va_callv (va_runV (As := [.int x1, .int 0, .int 0]) (rest := []) ⟨hx, hb, hml, hown, hts⟩ (c_X6_findCould l dC dI cI cZ H.size p_asker p_images p_isKept p_noise p_room p_saidAsker p_saidMount p_saidNoise p_saidSpeaker p_speaker p_st p_text p_this d_dishes d_speakers d_noises d_askers d_trace d_texted d_cursor d_start d_token d_number d_word d_isWrong d_saidDishes d_saidSpeakers d_saidNoises d_saidAskers d_couldBe d_couldHere d_st x1 0 0 q13 hq13) (cwV 3 hts gX6_could_X6_findCould rfl rfl rfl (by decide +kernel) ⟨Nat.le_of_ble_eq_true rfl, Nat.le_of_ble_eq_true rfl⟩) ⟨fun a U g mk q => ⟨q.1, PC.mv q.2⟩, va_recv hK hP (ci := 6) (q0 := 0) rfl rfl, fun U hU hW => ⟨rfl, PC.of hU hW hPc hK hDc hN⟩⟩ rfl rfl hl.1 rfl (lv_room (Nat.le_of_ble_eq_true rfl)) dX6_could_13 ⟨Nat.zero_le _, Nat.zero_le _⟩) hS (fun q _ h => hFc q h) hFc (fun u t H1 locs ht hvm hw hB hz1 hk1 hS => ?_)
    obtain ⟨hP1, hD1⟩ := hB
    rw [ht] at hP1
    obtain ⟨hP, hD⟩ := va_join (wr := []) (w1 := [(p_this, .inr (6, [.int d_dishes, .int d_speakers, .ref p_speaker, .int d_noises, .ref p_noise, .int d_askers, .ref p_asker, .ref p_st, .ref p_images, .ref p_isKept, .long d_trace, .ref p_text, .int d_texted, .int d_cursor, .int d_start, .int d_token, .int d_number, .long d_word, .int d_isWrong, .int d_saidDishes, .ref p_saidMount, .int d_saidSpeakers, .ref p_saidSpeaker, .int d_saidNoises, .ref p_saidNoise, .int d_saidAskers, .ref p_saidAsker, .ref p_room, .int q13.1, .int q13.2])), (p_st, .inl (cI, 104, .inl d_st))]) hP hD [0, 1] [] rfl rfl (by decide) (by decide) hk1 hFc hP1 hD1
    have hP : va_P (dC, dI) vwCl [(p_this, .inr (6, [.int d_dishes, .int d_speakers, .ref p_speaker, .int d_noises, .ref p_noise, .int d_askers, .ref p_asker, .ref p_st, .ref p_images, .ref p_isKept, .long d_trace, .ref p_text, .int d_texted, .int d_cursor, .int d_start, .int d_token, .int d_number, .long d_word, .int d_isWrong, .int d_saidDishes, .ref p_saidMount, .int d_saidSpeakers, .ref p_saidSpeaker, .int d_saidNoises, .ref p_saidNoise, .int d_saidAskers, .ref p_saidAsker, .ref p_room, .int q13.1, .int q13.2])), (p_st, .inl (cI, 104, .inl d_st))] H1 := hP.sub [0, 1] rfl
    have hD : va_D A [(p_this, .inr (6, [.int d_dishes, .int d_speakers, .ref p_speaker, .int d_noises, .ref p_noise, .int d_askers, .ref p_asker, .ref p_st, .ref p_images, .ref p_isKept, .long d_trace, .ref p_text, .int d_texted, .int d_cursor, .int d_start, .int d_token, .int d_number, .long d_word, .int d_isWrong, .int d_saidDishes, .ref p_saidMount, .int d_saidSpeakers, .ref p_saidSpeaker, .int d_saidNoises, .ref p_saidNoise, .int d_saidAskers, .ref p_saidAsker, .ref p_room, .int q13.1, .int q13.2])), (p_st, .inl (cI, 104, .inl d_st))] := hD.sub [0, 1] (by decide) rfl
    clear hPc hDc hFc hk1 hz1 hP1 hD1 ht hvm
    generalize H1 = H at hP hS ⊢
    refine lv_aload_n hx hb dX6_could_16 rfl (lv_at hl 0 rfl) ?_
    refine va_get (D := (dC, dI)) (ci := 6) (v := .int q13.1) (C := RX6) (T := TX6) (N := 30) hx hb hts iwX6 hown hK hP 0 rfl rfl 28 (by decide) (hts (.fieldLink RX6 197 "SkyListenersModel" "couldBe" "I") (by decide +kernel)) (fun _ h9 => h9) rfl dX6_could_17 ?_
    have hrun := Option.some.inj hrun
    subst hrun
    rw [hQ]
    exact W.iret (v := q13.1) hx hb hr (fun t ht hW => ⟨⟨q13.1, (), rfl, rfl, by rw [ht]; exact hP, hD⟩, hS.F ht⟩) hS.2.2 dX6_could_20
  · rw [if_pos c_4] at hrun
    refine lv_iconst (v := (-1)) hx hb dX6_could_7 (by decide) ?_
    have hrun := Option.some.inj hrun
    subst hrun
    rw [hQ]
    exact W.iret (v := (-1)) hx hb hr (fun t ht hW => ⟨⟨(-1), (), rfl, rfl, by rw [ht]; exact hP, hD⟩, hS.F ht⟩) hS.2.2 dX6_could_8
-- SkyListenersModel.must
def f_X6_must_ (d_dishes : Int32) (d_couldBe : Int32) (d_couldHere : Int32) (d_st : Nat → Int32) (x1 : Int32) (x2 : Int32) (x3 : Int32) : Option (Int32 × Int32 × Int32) := (if (f_X6_isNote x1) = 0 then (some ((-1), d_couldBe, d_couldHere)) else (if (f_X6_isDish d_dishes x2) = 0 then (some ((-1), d_couldBe, d_couldHere)) else (if (f_X6_isHour x3) = 0 then (some ((-1), d_couldBe, d_couldHere)) else ((f_X6_looksOf d_st x2 x3).bind fun q29 => ((f_X6_findCould d_couldBe d_couldHere d_st x1 q29 x3).bind fun q33 => (if q33.1 = 0 then (some ((-9), q33.1, q33.2)) else (if q33.2 = q33.1 then (some (1, q33.1, q33.2)) else (if q33.2 = 0 then (some (0, q33.1, q33.2)) else (some ((-5), q33.1, q33.2))))))))))
set_option maxHeartbeats 4000000 in
set_option maxRecDepth 100000 in
theorem c_X6_must_ (l : Launch) (dC : Nat → ClassId) (dI : Nat → Nat → Nat) (cI cZ : ClassId) (sz : Nat) (p_asker p_images p_isKept p_noise p_room p_saidAsker p_saidMount p_saidNoise p_saidSpeaker p_speaker p_st p_text p_this : Nat) (d_dishes : Int32) (d_speakers : Int32) (d_noises : Int32) (d_askers : Int32) (d_trace : Int64) (d_texted : Int32) (d_cursor : Int32) (d_start : Int32) (d_token : Int32) (d_number : Int32) (d_word : Int64) (d_isWrong : Int32) (d_saidDishes : Int32) (d_saidSpeakers : Int32) (d_saidNoises : Int32) (d_saidAskers : Int32) (d_couldBe : Int32) (d_couldHere : Int32) (d_st : Nat → Int32) (x1 : Int32) (x2 : Int32) (x3 : Int32) (out : Int32 × Int32 × Int32) (hrun : f_X6_must_ d_dishes d_couldBe d_couldHere d_st x1 x2 x3 = some out) : Met l yX6_must_ wsX6_must_ ({ frames := 3, cells := 0, slots := 0, locals := 78 } : Room) (va_Pc [.ref p_this, .int x1, .int x2, .int x3] (PC dC dI cI cZ sz ([(p_this, .inr (6, [.int d_dishes, .int d_speakers, .ref p_speaker, .int d_noises, .ref p_noise, .int d_askers, .ref p_asker, .ref p_st, .ref p_images, .ref p_isKept, .long d_trace, .ref p_text, .int d_texted, .int d_cursor, .int d_start, .int d_token, .int d_number, .long d_word, .int d_isWrong, .int d_saidDishes, .ref p_saidMount, .int d_saidSpeakers, .ref p_saidSpeaker, .int d_saidNoises, .ref p_saidNoise, .int d_saidAskers, .ref p_saidAsker, .ref p_room, .int d_couldBe, .int d_couldHere])), (p_st, .inl (cI, 104, .inl d_st))] : va_W))) (va_Qi (fun r (_ : Unit) => r = out.1) (fun _ t => va_P (dC, dI) vwCl [(p_this, .inr (6, [.int d_dishes, .int d_speakers, .ref p_speaker, .int d_noises, .ref p_noise, .int d_askers, .ref p_asker, .ref p_st, .ref p_images, .ref p_isKept, .long d_trace, .ref p_text, .int d_texted, .int d_cursor, .int d_start, .int d_token, .int d_number, .long d_word, .int d_isWrong, .int d_saidDishes, .ref p_saidMount, .int d_saidSpeakers, .ref p_saidSpeaker, .int d_saidNoises, .ref p_saidNoise, .int d_saidAskers, .ref p_saidAsker, .ref p_room, .int out.2.1, .int out.2.2])), (p_st, .inl (cI, 104, .inl d_st))] t.heap ∧ va_D (va_A ([(p_this, .inr (6, [.int d_dishes, .int d_speakers, .ref p_speaker, .int d_noises, .ref p_noise, .int d_askers, .ref p_asker, .ref p_st, .ref p_images, .ref p_isKept, .long d_trace, .ref p_text, .int d_texted, .int d_cursor, .int d_start, .int d_token, .int d_number, .long d_word, .int d_isWrong, .int d_saidDishes, .ref p_saidMount, .int d_saidSpeakers, .ref p_saidSpeaker, .int d_saidNoises, .ref p_saidNoise, .int d_saidAskers, .ref p_saidAsker, .ref p_room, .int d_couldBe, .int d_couldHere])), (p_st, .inl (cI, 104, .inl d_st))] : va_W) sz) [(p_this, .inr (6, [.int d_dishes, .int d_speakers, .ref p_speaker, .int d_noises, .ref p_noise, .int d_askers, .ref p_asker, .ref p_st, .ref p_images, .ref p_isKept, .long d_trace, .ref p_text, .int d_texted, .int d_cursor, .int d_start, .int d_token, .int d_number, .long d_word, .int d_isWrong, .int d_saidDishes, .ref p_saidMount, .int d_saidSpeakers, .ref p_saidSpeaker, .int d_saidNoises, .ref p_saidNoise, .int d_saidAskers, .ref p_saidAsker, .ref p_room, .int out.2.1, .int out.2.2])), (p_st, .inl (cI, 104, .inl d_st))]) (va_A ([(p_this, .inr (6, [.int d_dishes, .int d_speakers, .ref p_speaker, .int d_noises, .ref p_noise, .int d_askers, .ref p_asker, .ref p_st, .ref p_images, .ref p_isKept, .long d_trace, .ref p_text, .int d_texted, .int d_cursor, .int d_start, .int d_token, .int d_number, .long d_word, .int d_isWrong, .int d_saidDishes, .ref p_saidMount, .int d_saidSpeakers, .ref p_saidSpeaker, .int d_saidNoises, .ref p_saidNoise, .int d_saidAskers, .ref p_saidAsker, .ref p_room, .int d_couldBe, .int d_couldHere])), (p_st, .inl (cI, 104, .inl d_st))] : va_W) sz)) 0 0 (va_A ([(p_this, .inr (6, [.int d_dishes, .int d_speakers, .ref p_speaker, .int d_noises, .ref p_noise, .int d_askers, .ref p_asker, .ref p_st, .ref p_images, .ref p_isKept, .long d_trace, .ref p_text, .int d_texted, .int d_cursor, .int d_start, .int d_token, .int d_number, .long d_word, .int d_isWrong, .int d_saidDishes, .ref p_saidMount, .int d_saidSpeakers, .ref p_saidSpeaker, .int d_saidNoises, .ref p_saidNoise, .int d_saidAskers, .ref p_saidAsker, .ref p_room, .int d_couldBe, .int d_couldHere])), (p_st, .inl (cI, 104, .inl d_st))] : va_W) sz) := by
  refine Met.ofW (cc := cX6_must_) (maxL := 4) (ret := (some .int)) (by decide) rfl ?_
  intro p e s m args below meth c s₁ B hml hv
  obtain ⟨rfl, hsz, hP, hK, hD0, hN⟩ := hv
  have hx := B.exec
  have hb := B.bytes
  have hr := B.returns
  have hts := atoms_spec (ws := wsX6_must_) B.pre
  have hown : s.vm.findClass RX6 = some m.cls := findClass_of_methodNamed B.named
  have hlocks := B.notSynchronized
  subst hsz
  have hD := hD0.self (sz := s.heap.size)
  generalize hAe : va_A ([(p_this, .inr (6, [.int d_dishes, .int d_speakers, .ref p_speaker, .int d_noises, .ref p_noise, .int d_askers, .ref p_asker, .ref p_st, .ref p_images, .ref p_isKept, .long d_trace, .ref p_text, .int d_texted, .int d_cursor, .int d_start, .int d_token, .int d_number, .long d_word, .int d_isWrong, .int d_saidDishes, .ref p_saidMount, .int d_saidSpeakers, .ref p_saidSpeaker, .int d_saidNoises, .ref p_saidNoise, .int d_saidAskers, .ref p_saidAsker, .ref p_room, .int d_couldBe, .int d_couldHere])), (p_st, .inl (cI, 104, .inl d_st))] : va_W) s.heap.size = A at hD ⊢
  have hA : ∀ q : Nat, s.heap.size ≤ q → A q := fun q h => by rw [← hAe]; exact Or.inr h
  have hS : va_S A s.heap s.heap [] := va_S.rf
  refine W_abs (fun Q hQ => ?_)
  have hl := lv_entry ([.ref p_this, .int x1, .int x2, .int x3]) (n := 4) (Nat.le_of_ble_eq_true rfl)
  rw [lg_entry_eq]
  generalize (lg_sl ([.ref p_this, .int x1, .int x2, .int x3]) ++ List.replicate (4 - (lg_sl ([.ref p_this, .int x1, .int x2, .int x3])).length) Slot.unset).toArray = ls at hl ⊢
  have hl : lv_has ls 4 [(0, .ref p_this), (1, .int x1), (2, .int x2), (3, .int x3)] := hl
  rw [f_X6_must_] at hrun
  refine W_start (ws := [(p_this, .inr (6, [.int d_dishes, .int d_speakers, .ref p_speaker, .int d_noises, .ref p_noise, .int d_askers, .ref p_asker, .ref p_st, .ref p_images, .ref p_isKept, .long d_trace, .ref p_text, .int d_texted, .int d_cursor, .int d_start, .int d_token, .int d_number, .long d_word, .int d_isWrong, .int d_saidDishes, .ref p_saidMount, .int d_saidSpeakers, .ref p_saidSpeaker, .int d_saidNoises, .ref p_saidNoise, .int d_saidAskers, .ref p_saidAsker, .ref p_room, .int d_couldBe, .int d_couldHere])), (p_st, .inl (cI, 104, .inl d_st))]) hP hS (fun H locs hP hS => ?_)
  have iwX6 : ∀ w ∈ wsX60, w ∈ wsX6_must_ := by decide +kernel
  refine lv_iload_n hx hb dX6_must__0 rfl (lv_at hl 1 rfl) ?_
  have hPc : va_P (dC, dI) vwCl [] H := hP.sub [] rfl
  have hDc : va_D A [] := hD.sub [] (by decide) rfl
  have hFc := va_free (wc := []) hD hS hA [] rfl
  refine va_calli (va_runS (As := [.int x1]) (rest := []) ⟨hx, hb, hml, hown, hts⟩ (c_X6_isNote l dC dI cI cZ H.size x1 (f_X6_isNote x1) rfl) (va_cwS 1 hts gX6_must__X6_isNote rfl rfl rfl (by decide +kernel) ⟨Nat.le_of_ble_eq_true rfl, Nat.le_of_ble_eq_true rfl⟩) ⟨fun a U g mk q => ⟨q.1, PC.mv q.2⟩, fun U hU hW => ⟨rfl, PC.of hU hW hPc hK hDc hN⟩⟩ rfl rfl hl.1 rfl (lv_room (Nat.le_of_ble_eq_true rfl)) dX6_must__1 ⟨Nat.zero_le _, Nat.zero_le _⟩) hS (fun q _ h => hFc q h) hFc (fun r_1 u t H1 locs ht hvm hw hB hz1 hk1 hS => ?_)
  obtain ⟨hP1, hD1⟩ := hB
  try dsimp only at hw
  rw [hw]
  rw [ht] at hP1
  have hP : va_P (dC, dI) vwCl [(p_this, .inr (6, [.int d_dishes, .int d_speakers, .ref p_speaker, .int d_noises, .ref p_noise, .int d_askers, .ref p_asker, .ref p_st, .ref p_images, .ref p_isKept, .long d_trace, .ref p_text, .int d_texted, .int d_cursor, .int d_start, .int d_token, .int d_number, .long d_word, .int d_isWrong, .int d_saidDishes, .ref p_saidMount, .int d_saidSpeakers, .ref p_saidSpeaker, .int d_saidNoises, .ref p_saidNoise, .int d_saidAskers, .ref p_saidAsker, .ref p_room, .int d_couldBe, .int d_couldHere])), (p_st, .inl (cI, 104, .inl d_st))] H1 := join_ro hP hD [] rfl hk1 hP1
  clear hPc hDc hFc hk1 hz1 hP1 hD1 ht hvm
  generalize H1 = H at hP hS ⊢
  refine lv_if_eq (tgt := 22) hx hb dX6_must__4 (by decide) (fun c_4 => ?_) (fun c_4 => ?_)
  · rw [if_pos c_4] at hrun
    refine lv_iconst (v := (-1)) hx hb dX6_must__22 (by decide) ?_
    have hrun := Option.some.inj hrun
    subst hrun
    rw [hQ]
    exact W.iret (v := (-1)) hx hb hr (fun t ht hW => ⟨⟨(-1), (), rfl, rfl, by rw [ht]; exact hP, hD⟩, hS.F ht⟩) hS.2.2 dX6_must__23
  · rw [if_neg c_4] at hrun
    refine lv_aload_n hx hb dX6_must__7 rfl (lv_at hl 0 rfl) ?_
    refine lv_iload_n hx hb dX6_must__8 rfl (lv_at hl 2 rfl) ?_
    have hPc : va_P (dC, dI) vwCl [(p_this, .inr (6, [.int d_dishes, .int d_speakers, .ref p_speaker, .int d_noises, .ref p_noise, .int d_askers, .ref p_asker, .ref p_st, .ref p_images, .ref p_isKept, .long d_trace, .ref p_text, .int d_texted, .int d_cursor, .int d_start, .int d_token, .int d_number, .long d_word, .int d_isWrong, .int d_saidDishes, .ref p_saidMount, .int d_saidSpeakers, .ref p_saidSpeaker, .int d_saidNoises, .ref p_saidNoise, .int d_saidAskers, .ref p_saidAsker, .ref p_room, .int d_couldBe, .int d_couldHere]))] H := hP.sub [0] rfl
    have hDc : va_D A [(p_this, .inr (6, [.int d_dishes, .int d_speakers, .ref p_speaker, .int d_noises, .ref p_noise, .int d_askers, .ref p_asker, .ref p_st, .ref p_images, .ref p_isKept, .long d_trace, .ref p_text, .int d_texted, .int d_cursor, .int d_start, .int d_token, .int d_number, .long d_word, .int d_isWrong, .int d_saidDishes, .ref p_saidMount, .int d_saidSpeakers, .ref p_saidSpeaker, .int d_saidNoises, .ref p_saidNoise, .int d_saidAskers, .ref p_saidAsker, .ref p_room, .int d_couldBe, .int d_couldHere]))] := hD.sub [0] (by decide) rfl
    have hFc := va_free (wc := [(p_this, .inr (6, [.int d_dishes, .int d_speakers, .ref p_speaker, .int d_noises, .ref p_noise, .int d_askers, .ref p_asker, .ref p_st, .ref p_images, .ref p_isKept, .long d_trace, .ref p_text, .int d_texted, .int d_cursor, .int d_start, .int d_token, .int d_number, .long d_word, .int d_isWrong, .int d_saidDishes, .ref p_saidMount, .int d_saidSpeakers, .ref p_saidSpeaker, .int d_saidNoises, .ref p_saidNoise, .int d_saidAskers, .ref p_saidAsker, .ref p_room, .int d_couldBe, .int d_couldHere]))]) hD hS hA [0] rfl
    refine va_calli (va_runV (As := [.int x2]) (rest := []) ⟨hx, hb, hml, hown, hts⟩ (c_X6_isDish l dC dI cI cZ H.size p_asker p_images p_isKept p_noise p_room p_saidAsker p_saidMount p_saidNoise p_saidSpeaker p_speaker p_st p_text p_this d_dishes d_speakers d_noises d_askers d_trace d_texted d_cursor d_start d_token d_number d_word d_isWrong d_saidDishes d_saidSpeakers d_saidNoises d_saidAskers d_couldBe d_couldHere x2 (f_X6_isDish d_dishes x2) rfl) (cwV 1 hts gX6_must__X6_isDish rfl rfl rfl (by decide +kernel) ⟨Nat.le_of_ble_eq_true rfl, Nat.le_of_ble_eq_true rfl⟩) ⟨fun a U g mk q => ⟨q.1, PC.mv q.2⟩, va_recv hK hP (ci := 6) (q0 := 0) rfl rfl, fun U hU hW => ⟨rfl, PC.of hU hW hPc hK hDc hN⟩⟩ rfl rfl hl.1 rfl (lv_room (Nat.le_of_ble_eq_true rfl)) dX6_must__9 ⟨Nat.zero_le _, Nat.zero_le _⟩) hS (fun q _ h => hFc q h) hFc (fun r_9 u t H1 locs ht hvm hw hB hz1 hk1 hS => ?_)
    obtain ⟨hP1, hD1⟩ := hB
    try dsimp only at hw
    rw [hw]
    rw [ht] at hP1
    have hP : va_P (dC, dI) vwCl [(p_this, .inr (6, [.int d_dishes, .int d_speakers, .ref p_speaker, .int d_noises, .ref p_noise, .int d_askers, .ref p_asker, .ref p_st, .ref p_images, .ref p_isKept, .long d_trace, .ref p_text, .int d_texted, .int d_cursor, .int d_start, .int d_token, .int d_number, .long d_word, .int d_isWrong, .int d_saidDishes, .ref p_saidMount, .int d_saidSpeakers, .ref p_saidSpeaker, .int d_saidNoises, .ref p_saidNoise, .int d_saidAskers, .ref p_saidAsker, .ref p_room, .int d_couldBe, .int d_couldHere])), (p_st, .inl (cI, 104, .inl d_st))] H1 := join_ro hP hD [0] rfl hk1 hP1
    clear hPc hDc hFc hk1 hz1 hP1 hD1 ht hvm
    generalize H1 = H at hP hS ⊢
    refine lv_if_eq (tgt := 22) hx hb dX6_must__12 (by decide) (fun c_12 => ?_) (fun c_12 => ?_)
    · rw [if_pos c_12] at hrun
      refine lv_iconst (v := (-1)) hx hb dX6_must__22 (by decide) ?_
      have hrun := Option.some.inj hrun
      subst hrun
      rw [hQ]
      exact W.iret (v := (-1)) hx hb hr (fun t ht hW => ⟨⟨(-1), (), rfl, rfl, by rw [ht]; exact hP, hD⟩, hS.F ht⟩) hS.2.2 dX6_must__23
    · rw [if_neg c_12] at hrun
      refine lv_iload_n hx hb dX6_must__15 rfl (lv_at hl 3 rfl) ?_
      have hPc : va_P (dC, dI) vwCl [] H := hP.sub [] rfl
      have hDc : va_D A [] := hD.sub [] (by decide) rfl
      have hFc := va_free (wc := []) hD hS hA [] rfl
      refine va_calli (va_runS (As := [.int x3]) (rest := []) ⟨hx, hb, hml, hown, hts⟩ (c_X6_isHour l dC dI cI cZ H.size x3 (f_X6_isHour x3) rfl) (va_cwS 1 hts gX6_must__X6_isHour rfl rfl rfl (by decide +kernel) ⟨Nat.le_of_ble_eq_true rfl, Nat.le_of_ble_eq_true rfl⟩) ⟨fun a U g mk q => ⟨q.1, PC.mv q.2⟩, fun U hU hW => ⟨rfl, PC.of hU hW hPc hK hDc hN⟩⟩ rfl rfl hl.1 rfl (lv_room (Nat.le_of_ble_eq_true rfl)) dX6_must__16 ⟨Nat.zero_le _, Nat.zero_le _⟩) hS (fun q _ h => hFc q h) hFc (fun r_16 u t H1 locs ht hvm hw hB hz1 hk1 hS => ?_)
      obtain ⟨hP1, hD1⟩ := hB
      try dsimp only at hw
      rw [hw]
      rw [ht] at hP1
      have hP : va_P (dC, dI) vwCl [(p_this, .inr (6, [.int d_dishes, .int d_speakers, .ref p_speaker, .int d_noises, .ref p_noise, .int d_askers, .ref p_asker, .ref p_st, .ref p_images, .ref p_isKept, .long d_trace, .ref p_text, .int d_texted, .int d_cursor, .int d_start, .int d_token, .int d_number, .long d_word, .int d_isWrong, .int d_saidDishes, .ref p_saidMount, .int d_saidSpeakers, .ref p_saidSpeaker, .int d_saidNoises, .ref p_saidNoise, .int d_saidAskers, .ref p_saidAsker, .ref p_room, .int d_couldBe, .int d_couldHere])), (p_st, .inl (cI, 104, .inl d_st))] H1 := join_ro hP hD [] rfl hk1 hP1
      clear hPc hDc hFc hk1 hz1 hP1 hD1 ht hvm
      generalize H1 = H at hP hS ⊢
      refine lv_if_ne (tgt := 24) hx hb dX6_must__19 (by decide) (fun c_19 => ?_) (fun c_19 => ?_)
      · rw [if_neg c_19] at hrun
        refine lv_aload_n hx hb dX6_must__24 rfl (lv_at hl 0 rfl) ?_
        refine lv_iload_n hx hb dX6_must__25 rfl (lv_at hl 1 rfl) ?_
        refine lv_aload_n hx hb dX6_must__26 rfl (lv_at hl 0 rfl) ?_
        refine lv_iload_n hx hb dX6_must__27 rfl (lv_at hl 2 rfl) ?_
        refine lv_iload_n hx hb dX6_must__28 rfl (lv_at hl 3 rfl) ?_
        obtain ⟨q29, hq29, hrun⟩ := bind_out hrun
        have hPc : va_P (dC, dI) vwCl [(p_this, .inr (6, [.int d_dishes, .int d_speakers, .ref p_speaker, .int d_noises, .ref p_noise, .int d_askers, .ref p_asker, .ref p_st, .ref p_images, .ref p_isKept, .long d_trace, .ref p_text, .int d_texted, .int d_cursor, .int d_start, .int d_token, .int d_number, .long d_word, .int d_isWrong, .int d_saidDishes, .ref p_saidMount, .int d_saidSpeakers, .ref p_saidSpeaker, .int d_saidNoises, .ref p_saidNoise, .int d_saidAskers, .ref p_saidAsker, .ref p_room, .int d_couldBe, .int d_couldHere])), (p_st, .inl (cI, 104, .inl d_st))] H := hP.sub [0, 1] rfl
        have hDc : va_D A [(p_this, .inr (6, [.int d_dishes, .int d_speakers, .ref p_speaker, .int d_noises, .ref p_noise, .int d_askers, .ref p_asker, .ref p_st, .ref p_images, .ref p_isKept, .long d_trace, .ref p_text, .int d_texted, .int d_cursor, .int d_start, .int d_token, .int d_number, .long d_word, .int d_isWrong, .int d_saidDishes, .ref p_saidMount, .int d_saidSpeakers, .ref p_saidSpeaker, .int d_saidNoises, .ref p_saidNoise, .int d_saidAskers, .ref p_saidAsker, .ref p_room, .int d_couldBe, .int d_couldHere])), (p_st, .inl (cI, 104, .inl d_st))] := hD.sub [0, 1] (by decide) rfl
        have hFc := va_free (wc := [(p_this, .inr (6, [.int d_dishes, .int d_speakers, .ref p_speaker, .int d_noises, .ref p_noise, .int d_askers, .ref p_asker, .ref p_st, .ref p_images, .ref p_isKept, .long d_trace, .ref p_text, .int d_texted, .int d_cursor, .int d_start, .int d_token, .int d_number, .long d_word, .int d_isWrong, .int d_saidDishes, .ref p_saidMount, .int d_saidSpeakers, .ref p_saidSpeaker, .int d_saidNoises, .ref p_saidNoise, .int d_saidAskers, .ref p_saidAsker, .ref p_room, .int d_couldBe, .int d_couldHere])), (p_st, .inl (cI, 104, .inl d_st))]) hD hS hA [0, 1] rfl
        refine va_calli (va_runV (As := [.int x2, .int x3]) (rest := [.int x1, .ref p_this]) ⟨hx, hb, hml, hown, hts⟩ (c_X6_looksOf l dC dI cI cZ H.size p_asker p_images p_isKept p_noise p_room p_saidAsker p_saidMount p_saidNoise p_saidSpeaker p_speaker p_st p_text p_this d_dishes d_speakers d_noises d_askers d_trace d_texted d_cursor d_start d_token d_number d_word d_isWrong d_saidDishes d_saidSpeakers d_saidNoises d_saidAskers d_couldBe d_couldHere d_st x2 x3 q29 hq29) (cwV 2 hts gX6_must__X6_looksOf rfl rfl rfl (by decide +kernel) ⟨Nat.le_of_ble_eq_true rfl, Nat.le_of_ble_eq_true rfl⟩) ⟨fun a U g mk q => ⟨q.1, PC.mv q.2⟩, va_recv hK hP (ci := 6) (q0 := 0) rfl rfl, fun U hU hW => ⟨rfl, PC.of hU hW hPc hK hDc hN⟩⟩ rfl rfl hl.1 rfl (lv_room (Nat.le_of_ble_eq_true rfl)) dX6_must__29 ⟨Nat.zero_le _, Nat.zero_le _⟩) hS (fun q _ h => hFc q h) hFc (fun r_29 u t H1 locs ht hvm hw hB hz1 hk1 hS => ?_)
        obtain ⟨hP1, hD1⟩ := hB
        try dsimp only at hw
        rw [hw]
        rw [ht] at hP1
        have hP : va_P (dC, dI) vwCl [(p_this, .inr (6, [.int d_dishes, .int d_speakers, .ref p_speaker, .int d_noises, .ref p_noise, .int d_askers, .ref p_asker, .ref p_st, .ref p_images, .ref p_isKept, .long d_trace, .ref p_text, .int d_texted, .int d_cursor, .int d_start, .int d_token, .int d_number, .long d_word, .int d_isWrong, .int d_saidDishes, .ref p_saidMount, .int d_saidSpeakers, .ref p_saidSpeaker, .int d_saidNoises, .ref p_saidNoise, .int d_saidAskers, .ref p_saidAsker, .ref p_room, .int d_couldBe, .int d_couldHere])), (p_st, .inl (cI, 104, .inl d_st))] H1 := join_ro hP hD [0, 1] rfl hk1 hP1
        clear hPc hDc hFc hk1 hz1 hP1 hD1 ht hvm
        generalize H1 = H at hP hS ⊢
        refine lv_iload_n hx hb dX6_must__32 rfl (lv_at hl 3 rfl) ?_
        obtain ⟨q33, hq33, hrun⟩ := bind_out hrun
        have hPc : va_P (dC, dI) vwCl [(p_this, .inr (6, [.int d_dishes, .int d_speakers, .ref p_speaker, .int d_noises, .ref p_noise, .int d_askers, .ref p_asker, .ref p_st, .ref p_images, .ref p_isKept, .long d_trace, .ref p_text, .int d_texted, .int d_cursor, .int d_start, .int d_token, .int d_number, .long d_word, .int d_isWrong, .int d_saidDishes, .ref p_saidMount, .int d_saidSpeakers, .ref p_saidSpeaker, .int d_saidNoises, .ref p_saidNoise, .int d_saidAskers, .ref p_saidAsker, .ref p_room, .int d_couldBe, .int d_couldHere])), (p_st, .inl (cI, 104, .inl d_st))] H := hP.sub [0, 1] rfl
        have hDc : va_D A [(p_this, .inr (6, [.int d_dishes, .int d_speakers, .ref p_speaker, .int d_noises, .ref p_noise, .int d_askers, .ref p_asker, .ref p_st, .ref p_images, .ref p_isKept, .long d_trace, .ref p_text, .int d_texted, .int d_cursor, .int d_start, .int d_token, .int d_number, .long d_word, .int d_isWrong, .int d_saidDishes, .ref p_saidMount, .int d_saidSpeakers, .ref p_saidSpeaker, .int d_saidNoises, .ref p_saidNoise, .int d_saidAskers, .ref p_saidAsker, .ref p_room, .int d_couldBe, .int d_couldHere])), (p_st, .inl (cI, 104, .inl d_st))] := hD.sub [0, 1] (by decide) rfl
        have hFc := va_free (wc := [(p_this, .inr (6, [.int d_dishes, .int d_speakers, .ref p_speaker, .int d_noises, .ref p_noise, .int d_askers, .ref p_asker, .ref p_st, .ref p_images, .ref p_isKept, .long d_trace, .ref p_text, .int d_texted, .int d_cursor, .int d_start, .int d_token, .int d_number, .long d_word, .int d_isWrong, .int d_saidDishes, .ref p_saidMount, .int d_saidSpeakers, .ref p_saidSpeaker, .int d_saidNoises, .ref p_saidNoise, .int d_saidAskers, .ref p_saidAsker, .ref p_room, .int d_couldBe, .int d_couldHere])), (p_st, .inl (cI, 104, .inl d_st))]) hD hS hA [0, 1] rfl
        refine va_callv (va_runV (As := [.int x1, .int q29, .int x3]) (rest := []) ⟨hx, hb, hml, hown, hts⟩ (c_X6_findCould l dC dI cI cZ H.size p_asker p_images p_isKept p_noise p_room p_saidAsker p_saidMount p_saidNoise p_saidSpeaker p_speaker p_st p_text p_this d_dishes d_speakers d_noises d_askers d_trace d_texted d_cursor d_start d_token d_number d_word d_isWrong d_saidDishes d_saidSpeakers d_saidNoises d_saidAskers d_couldBe d_couldHere d_st x1 q29 x3 q33 hq33) (cwV 3 hts gX6_must__X6_findCould rfl rfl rfl (by decide +kernel) ⟨Nat.le_of_ble_eq_true rfl, Nat.le_of_ble_eq_true rfl⟩) ⟨fun a U g mk q => ⟨q.1, PC.mv q.2⟩, va_recv hK hP (ci := 6) (q0 := 0) rfl rfl, fun U hU hW => ⟨rfl, PC.of hU hW hPc hK hDc hN⟩⟩ rfl rfl hl.1 rfl (lv_room (Nat.le_of_ble_eq_true rfl)) dX6_must__33 ⟨Nat.zero_le _, Nat.zero_le _⟩) hS (fun q _ h => hFc q h) hFc (fun u t H1 locs ht hvm hw hB hz1 hk1 hS => ?_)
        obtain ⟨hP1, hD1⟩ := hB
        rw [ht] at hP1
        obtain ⟨hP, hD⟩ := va_join (wr := []) (w1 := [(p_this, .inr (6, [.int d_dishes, .int d_speakers, .ref p_speaker, .int d_noises, .ref p_noise, .int d_askers, .ref p_asker, .ref p_st, .ref p_images, .ref p_isKept, .long d_trace, .ref p_text, .int d_texted, .int d_cursor, .int d_start, .int d_token, .int d_number, .long d_word, .int d_isWrong, .int d_saidDishes, .ref p_saidMount, .int d_saidSpeakers, .ref p_saidSpeaker, .int d_saidNoises, .ref p_saidNoise, .int d_saidAskers, .ref p_saidAsker, .ref p_room, .int q33.1, .int q33.2])), (p_st, .inl (cI, 104, .inl d_st))]) hP hD [0, 1] [] rfl rfl (by decide) (by decide) hk1 hFc hP1 hD1
        have hP : va_P (dC, dI) vwCl [(p_this, .inr (6, [.int d_dishes, .int d_speakers, .ref p_speaker, .int d_noises, .ref p_noise, .int d_askers, .ref p_asker, .ref p_st, .ref p_images, .ref p_isKept, .long d_trace, .ref p_text, .int d_texted, .int d_cursor, .int d_start, .int d_token, .int d_number, .long d_word, .int d_isWrong, .int d_saidDishes, .ref p_saidMount, .int d_saidSpeakers, .ref p_saidSpeaker, .int d_saidNoises, .ref p_saidNoise, .int d_saidAskers, .ref p_saidAsker, .ref p_room, .int q33.1, .int q33.2])), (p_st, .inl (cI, 104, .inl d_st))] H1 := hP.sub [0, 1] rfl
        have hD : va_D A [(p_this, .inr (6, [.int d_dishes, .int d_speakers, .ref p_speaker, .int d_noises, .ref p_noise, .int d_askers, .ref p_asker, .ref p_st, .ref p_images, .ref p_isKept, .long d_trace, .ref p_text, .int d_texted, .int d_cursor, .int d_start, .int d_token, .int d_number, .long d_word, .int d_isWrong, .int d_saidDishes, .ref p_saidMount, .int d_saidSpeakers, .ref p_saidSpeaker, .int d_saidNoises, .ref p_saidNoise, .int d_saidAskers, .ref p_saidAsker, .ref p_room, .int q33.1, .int q33.2])), (p_st, .inl (cI, 104, .inl d_st))] := hD.sub [0, 1] (by decide) rfl
        clear hPc hDc hFc hk1 hz1 hP1 hD1 ht hvm
        generalize H1 = H at hP hS ⊢
        refine lv_aload_n hx hb dX6_must__36 rfl (lv_at hl 0 rfl) ?_
        refine va_get (D := (dC, dI)) (ci := 6) (v := .int q33.1) (C := RX6) (T := TX6) (N := 30) hx hb hts iwX6 hown hK hP 0 rfl rfl 28 (by decide) (hts (.fieldLink RX6 197 "SkyListenersModel" "couldBe" "I") (by decide +kernel)) (fun _ h9 => h9) rfl dX6_must__37 ?_
        refine lv_if_ne (tgt := 48) hx hb dX6_must__40 (by decide) (fun c_40 => ?_) (fun c_40 => ?_)
        · rw [if_neg c_40] at hrun
          refine lv_aload_n hx hb dX6_must__48 rfl (lv_at hl 0 rfl) ?_
          refine va_get (D := (dC, dI)) (ci := 6) (v := .int q33.2) (C := RX6) (T := TX6) (N := 30) hx hb hts iwX6 hown hK hP 0 rfl rfl 29 (by decide) (hts (.fieldLink RX6 200 "SkyListenersModel" "couldHere" "I") (by decide +kernel)) (fun _ h9 => h9) rfl dX6_must__49 ?_
          refine lv_aload_n hx hb dX6_must__52 rfl (lv_at hl 0 rfl) ?_
          refine va_get (D := (dC, dI)) (ci := 6) (v := .int q33.1) (C := RX6) (T := TX6) (N := 30) hx hb hts iwX6 hown hK hP 0 rfl rfl 28 (by decide) (hts (.fieldLink RX6 197 "SkyListenersModel" "couldBe" "I") (by decide +kernel)) (fun _ h9 => h9) rfl dX6_must__53 ?_
          refine lv_icmp_ne (tgt := 63) hx hb dX6_must__56 (by decide) (fun c_56 => ?_) (fun c_56 => ?_)
          · rw [if_neg c_56] at hrun
            refine lv_aload_n hx hb dX6_must__63 rfl (lv_at hl 0 rfl) ?_
            refine va_get (D := (dC, dI)) (ci := 6) (v := .int q33.2) (C := RX6) (T := TX6) (N := 30) hx hb hts iwX6 hown hK hP 0 rfl rfl 29 (by decide) (hts (.fieldLink RX6 200 "SkyListenersModel" "couldHere" "I") (by decide +kernel)) (fun _ h9 => h9) rfl dX6_must__64 ?_
            refine lv_if_ne (tgt := 74) hx hb dX6_must__67 (by decide) (fun c_67 => ?_) (fun c_67 => ?_)
            · rw [if_neg c_67] at hrun
              refine lv_bipush (v := (-5)) hx hb dX6_must__74 (by decide) ?_
              have hrun := Option.some.inj hrun
              subst hrun
              rw [hQ]
              exact W.iret (v := (-5)) hx hb hr (fun t ht hW => ⟨⟨(-5), (), rfl, rfl, by rw [ht]; exact hP, hD⟩, hS.F ht⟩) hS.2.2 dX6_must__76
            · rw [if_pos c_67] at hrun
              refine lv_iconst (v := 0) hx hb dX6_must__70 (by decide) ?_
              refine lv_goto (tgt := 76) hx hb dX6_must__71 (by decide) ?_
              have hrun := Option.some.inj hrun
              subst hrun
              rw [hQ]
              exact W.iret (v := 0) hx hb hr (fun t ht hW => ⟨⟨0, (), rfl, rfl, by rw [ht]; exact hP, hD⟩, hS.F ht⟩) hS.2.2 dX6_must__76
          · rw [if_pos c_56] at hrun
            refine lv_iconst (v := 1) hx hb dX6_must__59 (by decide) ?_
            refine lv_goto (tgt := 76) hx hb dX6_must__60 (by decide) ?_
            have hrun := Option.some.inj hrun
            subst hrun
            rw [hQ]
            exact W.iret (v := 1) hx hb hr (fun t ht hW => ⟨⟨1, (), rfl, rfl, by rw [ht]; exact hP, hD⟩, hS.F ht⟩) hS.2.2 dX6_must__76
        · rw [if_pos c_40] at hrun
          refine lv_bipush (v := (-9)) hx hb dX6_must__43 (by decide) ?_
          refine lv_goto (tgt := 76) hx hb dX6_must__45 (by decide) ?_
          have hrun := Option.some.inj hrun
          subst hrun
          rw [hQ]
          exact W.iret (v := (-9)) hx hb hr (fun t ht hW => ⟨⟨(-9), (), rfl, rfl, by rw [ht]; exact hP, hD⟩, hS.F ht⟩) hS.2.2 dX6_must__76
      · rw [if_pos c_19] at hrun
        refine lv_iconst (v := (-1)) hx hb dX6_must__22 (by decide) ?_
        have hrun := Option.some.inj hrun
        subst hrun
        rw [hQ]
        exact W.iret (v := (-1)) hx hb hr (fun t ht hW => ⟨⟨(-1), (), rfl, rfl, by rw [ht]; exact hP, hD⟩, hS.F ht⟩) hS.2.2 dX6_must__23
-- SkyListenersModel.second
def f_X6_second_J96 (K22 : Int32 → Int32 → Option (Int32)) (x1 : Int32) (x2 : Int32) (x4 : Int32) (t0 : Int32) (d_dishes : Int32) (d_st : Nat → Int32) (t1 : Int32) : Option (Int32) := (K22 (t0 + t1) (x4 + 1))
def f_X6_second_X79 (K22 : Int32 → Int32 → Option (Int32)) (x1 : Int32) (x2 : Int32) (x3 : Int32) (x4 : Int32) (d_dishes : Int32) (d_st : Nat → Int32) (x5 : Int32) : Option (Int32) := (if x4 = x1 then (f_X6_second_J96 K22 x1 x2 x4 x3 d_dishes d_st 0) else (if x5 = 0 then (f_X6_second_J96 K22 x1 x2 x4 x3 d_dishes d_st 0) else (f_X6_second_J96 K22 x1 x2 x4 x3 d_dishes d_st 1)))
def f_X6_second_J71 (K37 : Int32 → Int32 → Option (Int32)) (x1 : Int32) (x2 : Int32) (x3 : Int32) (x4 : Int32) (x6 : Int32) (d_dishes : Int32) (d_st : Nat → Int32) (t0 : Int32) : Option (Int32) := (K37 t0 (x6 + 1))
def f_X6_second_L37 (K79 : Int32 → Option (Int32)) (x1 : Int32) (x2 : Int32) (x3 : Int32) (x4 : Int32) (d_dishes : Int32) (d_st : Nat → Int32) : Nat → Int32 → Int32 → Option (Int32)
  | 0, _, _ => none
  | n9 + 1, x5, x6 => (if 24 ≤ x6 then (K79 x5) else (if x5 = 0 then ((f_X6_looksOf d_st x4 x6).bind fun q54 => ((f_X6_looksOf d_st x1 x2).bind fun q60 => (if q54 = q60 then (f_X6_second_J71 (f_X6_second_L37 K79 x1 x2 x3 x4 d_dishes d_st n9) x1 x2 x3 x4 x6 d_dishes d_st 1) else (f_X6_second_J71 (f_X6_second_L37 K79 x1 x2 x3 x4 d_dishes d_st n9) x1 x2 x3 x4 x6 d_dishes d_st 0)))) else (f_X6_second_J71 (f_X6_second_L37 K79 x1 x2 x3 x4 d_dishes d_st n9) x1 x2 x3 x4 x6 d_dishes d_st 1)))
def f_X6_second_L22 (x1 : Int32) (x2 : Int32) (d_dishes : Int32) (d_st : Nat → Int32) : Nat → Int32 → Int32 → Option (Int32)
  | 0, _, _ => none
  | n9 + 1, x3, x4 => (if d_dishes ≤ x4 then (some x3) else (f_X6_second_L37 (f_X6_second_X79 (f_X6_second_L22  x1 x2 d_dishes d_st n9) x1 x2 x3 x4 d_dishes d_st) x1 x2 x3 x4 d_dishes d_st FU 0 x2))
def f_X6_second (d_dishes : Int32) (d_st : Nat → Int32) (x1 : Int32) (x2 : Int32) : Option (Int32) := (if (f_X6_isDish d_dishes x1) = 0 then (some (-1)) else (if (f_X6_isHour x2) = 0 then (some (-1)) else (f_X6_second_L22 x1 x2 d_dishes d_st FU 0 0)))
set_option maxHeartbeats 4000000 in
set_option maxRecDepth 100000 in
theorem c_X6_second (l : Launch) (dC : Nat → ClassId) (dI : Nat → Nat → Nat) (cI cZ : ClassId) (sz : Nat) (p_asker p_images p_isKept p_noise p_room p_saidAsker p_saidMount p_saidNoise p_saidSpeaker p_speaker p_st p_text p_this : Nat) (d_dishes : Int32) (d_speakers : Int32) (d_noises : Int32) (d_askers : Int32) (d_trace : Int64) (d_texted : Int32) (d_cursor : Int32) (d_start : Int32) (d_token : Int32) (d_number : Int32) (d_word : Int64) (d_isWrong : Int32) (d_saidDishes : Int32) (d_saidSpeakers : Int32) (d_saidNoises : Int32) (d_saidAskers : Int32) (d_couldBe : Int32) (d_couldHere : Int32) (d_st : Nat → Int32) (x1 : Int32) (x2 : Int32) (out : Int32) (hrun : f_X6_second d_dishes d_st x1 x2 = some out) : Met l yX6_second wsX6_second ({ frames := 2, cells := 0, slots := 0, locals := 43 } : Room) (va_Pc [.ref p_this, .int x1, .int x2] (PC dC dI cI cZ sz ([(p_this, .inr (6, [.int d_dishes, .int d_speakers, .ref p_speaker, .int d_noises, .ref p_noise, .int d_askers, .ref p_asker, .ref p_st, .ref p_images, .ref p_isKept, .long d_trace, .ref p_text, .int d_texted, .int d_cursor, .int d_start, .int d_token, .int d_number, .long d_word, .int d_isWrong, .int d_saidDishes, .ref p_saidMount, .int d_saidSpeakers, .ref p_saidSpeaker, .int d_saidNoises, .ref p_saidNoise, .int d_saidAskers, .ref p_saidAsker, .ref p_room, .int d_couldBe, .int d_couldHere])), (p_st, .inl (cI, 104, .inl d_st))] : va_W))) (va_Qi (fun r (_ : Unit) => r = out) (fun _ t => va_P (dC, dI) vwCl [(p_this, .inr (6, [.int d_dishes, .int d_speakers, .ref p_speaker, .int d_noises, .ref p_noise, .int d_askers, .ref p_asker, .ref p_st, .ref p_images, .ref p_isKept, .long d_trace, .ref p_text, .int d_texted, .int d_cursor, .int d_start, .int d_token, .int d_number, .long d_word, .int d_isWrong, .int d_saidDishes, .ref p_saidMount, .int d_saidSpeakers, .ref p_saidSpeaker, .int d_saidNoises, .ref p_saidNoise, .int d_saidAskers, .ref p_saidAsker, .ref p_room, .int d_couldBe, .int d_couldHere])), (p_st, .inl (cI, 104, .inl d_st))] t.heap ∧ va_D (va_A ([(p_this, .inr (6, [.int d_dishes, .int d_speakers, .ref p_speaker, .int d_noises, .ref p_noise, .int d_askers, .ref p_asker, .ref p_st, .ref p_images, .ref p_isKept, .long d_trace, .ref p_text, .int d_texted, .int d_cursor, .int d_start, .int d_token, .int d_number, .long d_word, .int d_isWrong, .int d_saidDishes, .ref p_saidMount, .int d_saidSpeakers, .ref p_saidSpeaker, .int d_saidNoises, .ref p_saidNoise, .int d_saidAskers, .ref p_saidAsker, .ref p_room, .int d_couldBe, .int d_couldHere])), (p_st, .inl (cI, 104, .inl d_st))] : va_W) sz) [(p_this, .inr (6, [.int d_dishes, .int d_speakers, .ref p_speaker, .int d_noises, .ref p_noise, .int d_askers, .ref p_asker, .ref p_st, .ref p_images, .ref p_isKept, .long d_trace, .ref p_text, .int d_texted, .int d_cursor, .int d_start, .int d_token, .int d_number, .long d_word, .int d_isWrong, .int d_saidDishes, .ref p_saidMount, .int d_saidSpeakers, .ref p_saidSpeaker, .int d_saidNoises, .ref p_saidNoise, .int d_saidAskers, .ref p_saidAsker, .ref p_room, .int d_couldBe, .int d_couldHere])), (p_st, .inl (cI, 104, .inl d_st))]) (va_A ([(p_this, .inr (6, [.int d_dishes, .int d_speakers, .ref p_speaker, .int d_noises, .ref p_noise, .int d_askers, .ref p_asker, .ref p_st, .ref p_images, .ref p_isKept, .long d_trace, .ref p_text, .int d_texted, .int d_cursor, .int d_start, .int d_token, .int d_number, .long d_word, .int d_isWrong, .int d_saidDishes, .ref p_saidMount, .int d_saidSpeakers, .ref p_saidSpeaker, .int d_saidNoises, .ref p_saidNoise, .int d_saidAskers, .ref p_saidAsker, .ref p_room, .int d_couldBe, .int d_couldHere])), (p_st, .inl (cI, 104, .inl d_st))] : va_W) sz)) 0 0 (va_A ([(p_this, .inr (6, [.int d_dishes, .int d_speakers, .ref p_speaker, .int d_noises, .ref p_noise, .int d_askers, .ref p_asker, .ref p_st, .ref p_images, .ref p_isKept, .long d_trace, .ref p_text, .int d_texted, .int d_cursor, .int d_start, .int d_token, .int d_number, .long d_word, .int d_isWrong, .int d_saidDishes, .ref p_saidMount, .int d_saidSpeakers, .ref p_saidSpeaker, .int d_saidNoises, .ref p_saidNoise, .int d_saidAskers, .ref p_saidAsker, .ref p_room, .int d_couldBe, .int d_couldHere])), (p_st, .inl (cI, 104, .inl d_st))] : va_W) sz) := by
  refine Met.ofW (cc := cX6_second) (maxL := 7) (ret := (some .int)) (by decide) rfl ?_
  intro p e s m args below meth c s₁ B hml hv
  obtain ⟨rfl, hsz, hP, hK, hD0, hN⟩ := hv
  have hx := B.exec
  have hb := B.bytes
  have hr := B.returns
  have hts := atoms_spec (ws := wsX6_second) B.pre
  have hown : s.vm.findClass RX6 = some m.cls := findClass_of_methodNamed B.named
  have hlocks := B.notSynchronized
  subst hsz
  have hD := hD0.self (sz := s.heap.size)
  generalize hAe : va_A ([(p_this, .inr (6, [.int d_dishes, .int d_speakers, .ref p_speaker, .int d_noises, .ref p_noise, .int d_askers, .ref p_asker, .ref p_st, .ref p_images, .ref p_isKept, .long d_trace, .ref p_text, .int d_texted, .int d_cursor, .int d_start, .int d_token, .int d_number, .long d_word, .int d_isWrong, .int d_saidDishes, .ref p_saidMount, .int d_saidSpeakers, .ref p_saidSpeaker, .int d_saidNoises, .ref p_saidNoise, .int d_saidAskers, .ref p_saidAsker, .ref p_room, .int d_couldBe, .int d_couldHere])), (p_st, .inl (cI, 104, .inl d_st))] : va_W) s.heap.size = A at hD ⊢
  have hA : ∀ q : Nat, s.heap.size ≤ q → A q := fun q h => by rw [← hAe]; exact Or.inr h
  have hS : va_S A s.heap s.heap [] := va_S.rf
  refine W_abs (fun Q hQ => ?_)
  have hl := lv_entry ([.ref p_this, .int x1, .int x2]) (n := 7) (Nat.le_of_ble_eq_true rfl)
  rw [lg_entry_eq]
  generalize (lg_sl ([.ref p_this, .int x1, .int x2]) ++ List.replicate (7 - (lg_sl ([.ref p_this, .int x1, .int x2])).length) Slot.unset).toArray = ls at hl ⊢
  have hl : lv_has ls 7 [(0, .ref p_this), (1, .int x1), (2, .int x2)] := hl
  rw [f_X6_second] at hrun
  refine W_start (ws := [(p_this, .inr (6, [.int d_dishes, .int d_speakers, .ref p_speaker, .int d_noises, .ref p_noise, .int d_askers, .ref p_asker, .ref p_st, .ref p_images, .ref p_isKept, .long d_trace, .ref p_text, .int d_texted, .int d_cursor, .int d_start, .int d_token, .int d_number, .long d_word, .int d_isWrong, .int d_saidDishes, .ref p_saidMount, .int d_saidSpeakers, .ref p_saidSpeaker, .int d_saidNoises, .ref p_saidNoise, .int d_saidAskers, .ref p_saidAsker, .ref p_room, .int d_couldBe, .int d_couldHere])), (p_st, .inl (cI, 104, .inl d_st))]) hP hS (fun H locs hP hS => ?_)
  have iwX6 : ∀ w ∈ wsX60, w ∈ wsX6_second := by decide +kernel
  refine lv_aload_n hx hb dX6_second_0 rfl (lv_at hl 0 rfl) ?_
  refine lv_iload_n hx hb dX6_second_1 rfl (lv_at hl 1 rfl) ?_
  have hPc : va_P (dC, dI) vwCl [(p_this, .inr (6, [.int d_dishes, .int d_speakers, .ref p_speaker, .int d_noises, .ref p_noise, .int d_askers, .ref p_asker, .ref p_st, .ref p_images, .ref p_isKept, .long d_trace, .ref p_text, .int d_texted, .int d_cursor, .int d_start, .int d_token, .int d_number, .long d_word, .int d_isWrong, .int d_saidDishes, .ref p_saidMount, .int d_saidSpeakers, .ref p_saidSpeaker, .int d_saidNoises, .ref p_saidNoise, .int d_saidAskers, .ref p_saidAsker, .ref p_room, .int d_couldBe, .int d_couldHere]))] H := hP.sub [0] rfl
  have hDc : va_D A [(p_this, .inr (6, [.int d_dishes, .int d_speakers, .ref p_speaker, .int d_noises, .ref p_noise, .int d_askers, .ref p_asker, .ref p_st, .ref p_images, .ref p_isKept, .long d_trace, .ref p_text, .int d_texted, .int d_cursor, .int d_start, .int d_token, .int d_number, .long d_word, .int d_isWrong, .int d_saidDishes, .ref p_saidMount, .int d_saidSpeakers, .ref p_saidSpeaker, .int d_saidNoises, .ref p_saidNoise, .int d_saidAskers, .ref p_saidAsker, .ref p_room, .int d_couldBe, .int d_couldHere]))] := hD.sub [0] (by decide) rfl
  have hFc := va_free (wc := [(p_this, .inr (6, [.int d_dishes, .int d_speakers, .ref p_speaker, .int d_noises, .ref p_noise, .int d_askers, .ref p_asker, .ref p_st, .ref p_images, .ref p_isKept, .long d_trace, .ref p_text, .int d_texted, .int d_cursor, .int d_start, .int d_token, .int d_number, .long d_word, .int d_isWrong, .int d_saidDishes, .ref p_saidMount, .int d_saidSpeakers, .ref p_saidSpeaker, .int d_saidNoises, .ref p_saidNoise, .int d_saidAskers, .ref p_saidAsker, .ref p_room, .int d_couldBe, .int d_couldHere]))]) hD hS hA [0] rfl
  refine va_calli (va_runV (As := [.int x1]) (rest := []) ⟨hx, hb, hml, hown, hts⟩ (c_X6_isDish l dC dI cI cZ H.size p_asker p_images p_isKept p_noise p_room p_saidAsker p_saidMount p_saidNoise p_saidSpeaker p_speaker p_st p_text p_this d_dishes d_speakers d_noises d_askers d_trace d_texted d_cursor d_start d_token d_number d_word d_isWrong d_saidDishes d_saidSpeakers d_saidNoises d_saidAskers d_couldBe d_couldHere x1 (f_X6_isDish d_dishes x1) rfl) (cwV 1 hts gX6_second_X6_isDish rfl rfl rfl (by decide +kernel) ⟨Nat.le_of_ble_eq_true rfl, Nat.le_of_ble_eq_true rfl⟩) ⟨fun a U g mk q => ⟨q.1, PC.mv q.2⟩, va_recv hK hP (ci := 6) (q0 := 0) rfl rfl, fun U hU hW => ⟨rfl, PC.of hU hW hPc hK hDc hN⟩⟩ rfl rfl hl.1 rfl (lv_room (Nat.le_of_ble_eq_true rfl)) dX6_second_2 ⟨Nat.zero_le _, Nat.zero_le _⟩) hS (fun q _ h => hFc q h) hFc (fun r_2 u t H1 locs ht hvm hw hB hz1 hk1 hS => ?_)
  obtain ⟨hP1, hD1⟩ := hB
  try dsimp only at hw
  rw [hw]
  rw [ht] at hP1
  have hP : va_P (dC, dI) vwCl [(p_this, .inr (6, [.int d_dishes, .int d_speakers, .ref p_speaker, .int d_noises, .ref p_noise, .int d_askers, .ref p_asker, .ref p_st, .ref p_images, .ref p_isKept, .long d_trace, .ref p_text, .int d_texted, .int d_cursor, .int d_start, .int d_token, .int d_number, .long d_word, .int d_isWrong, .int d_saidDishes, .ref p_saidMount, .int d_saidSpeakers, .ref p_saidSpeaker, .int d_saidNoises, .ref p_saidNoise, .int d_saidAskers, .ref p_saidAsker, .ref p_room, .int d_couldBe, .int d_couldHere])), (p_st, .inl (cI, 104, .inl d_st))] H1 := join_ro hP hD [0] rfl hk1 hP1
  clear hPc hDc hFc hk1 hz1 hP1 hD1 ht hvm
  generalize H1 = H at hP hS ⊢
  refine lv_if_eq (tgt := 15) hx hb dX6_second_5 (by decide) (fun c_5 => ?_) (fun c_5 => ?_)
  · rw [if_pos c_5] at hrun
    refine lv_iconst (v := (-1)) hx hb dX6_second_15 (by decide) ?_
    have hrun := Option.some.inj hrun
    subst hrun
    rw [hQ]
    exact W.iret (v := (-1)) hx hb hr (fun t ht hW => ⟨⟨(-1), (), rfl, rfl, by rw [ht]; exact hP, hD⟩, hS.F ht⟩) hS.2.2 dX6_second_16
  · rw [if_neg c_5] at hrun
    refine lv_iload_n hx hb dX6_second_8 rfl (lv_at hl 2 rfl) ?_
    have hPc : va_P (dC, dI) vwCl [] H := hP.sub [] rfl
    have hDc : va_D A [] := hD.sub [] (by decide) rfl
    have hFc := va_free (wc := []) hD hS hA [] rfl
    refine va_calli (va_runS (As := [.int x2]) (rest := []) ⟨hx, hb, hml, hown, hts⟩ (c_X6_isHour l dC dI cI cZ H.size x2 (f_X6_isHour x2) rfl) (va_cwS 1 hts gX6_second_X6_isHour rfl rfl rfl (by decide +kernel) ⟨Nat.le_of_ble_eq_true rfl, Nat.le_of_ble_eq_true rfl⟩) ⟨fun a U g mk q => ⟨q.1, PC.mv q.2⟩, fun U hU hW => ⟨rfl, PC.of hU hW hPc hK hDc hN⟩⟩ rfl rfl hl.1 rfl (lv_room (Nat.le_of_ble_eq_true rfl)) dX6_second_9 ⟨Nat.zero_le _, Nat.zero_le _⟩) hS (fun q _ h => hFc q h) hFc (fun r_9 u t H1 locs ht hvm hw hB hz1 hk1 hS => ?_)
    obtain ⟨hP1, hD1⟩ := hB
    try dsimp only at hw
    rw [hw]
    rw [ht] at hP1
    have hP : va_P (dC, dI) vwCl [(p_this, .inr (6, [.int d_dishes, .int d_speakers, .ref p_speaker, .int d_noises, .ref p_noise, .int d_askers, .ref p_asker, .ref p_st, .ref p_images, .ref p_isKept, .long d_trace, .ref p_text, .int d_texted, .int d_cursor, .int d_start, .int d_token, .int d_number, .long d_word, .int d_isWrong, .int d_saidDishes, .ref p_saidMount, .int d_saidSpeakers, .ref p_saidSpeaker, .int d_saidNoises, .ref p_saidNoise, .int d_saidAskers, .ref p_saidAsker, .ref p_room, .int d_couldBe, .int d_couldHere])), (p_st, .inl (cI, 104, .inl d_st))] H1 := join_ro hP hD [] rfl hk1 hP1
    clear hPc hDc hFc hk1 hz1 hP1 hD1 ht hvm
    generalize H1 = H at hP hS ⊢
    refine lv_if_ne (tgt := 17) hx hb dX6_second_12 (by decide) (fun c_12 => ?_) (fun c_12 => ?_)
    · rw [if_neg c_12] at hrun
      refine lv_iconst (v := 0) hx hb dX6_second_17 (by decide) ?_
      refine lv_istore_n (lv' := [(3, .int 0), (0, .ref p_this), (1, .int x1), (2, .int x2)]) hx hb dX6_second_18 rfl hl (by decide) rfl (fun ls hl => ?_)
      refine lv_iconst (v := 0) hx hb dX6_second_19 (by decide) ?_
      refine lv_istore (lv' := [(4, .int 0), (3, .int 0), (0, .ref p_this), (1, .int x1), (2, .int x2)]) hx hb dX6_second_20 hl (by decide) rfl (fun ls hl => ?_)
      have L22 : ∀ (n9_22 : Nat) (x3_22 : Int32) (x4_22 : Int32) (H : Heap) (locs : List Loc), va_P (dC, dI) vwCl [(p_this, .inr (6, [.int d_dishes, .int d_speakers, .ref p_speaker, .int d_noises, .ref p_noise, .int d_askers, .ref p_asker, .ref p_st, .ref p_images, .ref p_isKept, .long d_trace, .ref p_text, .int d_texted, .int d_cursor, .int d_start, .int d_token, .int d_number, .long d_word, .int d_isWrong, .int d_saidDishes, .ref p_saidMount, .int d_saidSpeakers, .ref p_saidSpeaker, .int d_saidNoises, .ref p_saidNoise, .int d_saidAskers, .ref p_saidAsker, .ref p_room, .int d_couldBe, .int d_couldHere])), (p_st, .inl (cI, 104, .inl d_st))] H → va_D A [(p_this, .inr (6, [.int d_dishes, .int d_speakers, .ref p_speaker, .int d_noises, .ref p_noise, .int d_askers, .ref p_asker, .ref p_st, .ref p_images, .ref p_isKept, .long d_trace, .ref p_text, .int d_texted, .int d_cursor, .int d_start, .int d_token, .int d_number, .long d_word, .int d_isWrong, .int d_saidDishes, .ref p_saidMount, .int d_saidSpeakers, .ref p_saidSpeaker, .int d_saidNoises, .ref p_saidNoise, .int d_saidAskers, .ref p_saidAsker, .ref p_room, .int d_couldBe, .int d_couldHere])), (p_st, .inl (cI, 104, .inl d_st))] → va_S A s.heap H locs → ∀ ls : Array Slot, lv_has ls 7 [(0, .ref p_this), (1, .int x1), (2, .int x2), (3, .int x3_22), (4, .int x4_22)] → f_X6_second_L22 x1 x2 d_dishes d_st n9_22 x3_22 x4_22 = some out → W p l e ({ frames := 2, cells := 0, slots := 0, locals := 43 } : Room) s m ([.ref p_this, .int x1, .int x2] : List Value).toArray below meth c H locs 0 0 Q (F0 m 22 ls []) := by
        intro n9_22
        induction n9_22 with
        | zero =>
          intro x3_22 x4_22 H locs hP hD hS ls hl hrun
          rw [f_X6_second_L22] at hrun
          cases hrun
        | succ n9_22 ih22 =>
          intro x3_22 x4_22 H locs hP hD hS ls hl hrun
          rw [f_X6_second_L22] at hrun
          refine lv_iload hx hb dX6_second_22 (lv_at hl 4 rfl) ?_
          refine lv_aload_n hx hb dX6_second_24 rfl (lv_at hl 0 rfl) ?_
          refine va_get (D := (dC, dI)) (ci := 6) (v := .int d_dishes) (C := RX6) (T := TX6) (N := 30) hx hb hts iwX6 hown hK hP 0 rfl rfl 0 (by decide) (hts (.fieldLink RX6 47 "SkyListenersModel" "dishes" "I") (by decide +kernel)) (fun _ h9 => h9) rfl dX6_second_25 ?_
          refine lv_icmp_ge (tgt := 104) hx hb dX6_second_28 (by decide) (fun c_28 => ?_) (fun c_28 => ?_)
          · rw [if_pos c_28] at hrun
            refine lv_iload_n hx hb dX6_second_104 rfl (lv_at hl 3 rfl) ?_
            have hrun := Option.some.inj hrun
            subst hrun
            rw [hQ]
            exact W.iret (v := x3_22) hx hb hr (fun t ht hW => ⟨⟨x3_22, (), rfl, rfl, by rw [ht]; exact hP, hD⟩, hS.F ht⟩) hS.2.2 dX6_second_105
          · rw [if_neg c_28] at hrun
            refine lv_iconst (v := 0) hx hb dX6_second_31 (by decide) ?_
            refine lv_istore (lv' := [(5, .int 0), (0, .ref p_this), (1, .int x1), (2, .int x2), (3, .int x3_22), (4, .int x4_22)]) hx hb dX6_second_32 hl (by decide) rfl (fun ls hl => ?_)
            refine lv_iload_n hx hb dX6_second_34 rfl (lv_at hl 3 rfl) ?_
            refine lv_istore (lv' := [(6, .int x2), (5, .int 0), (0, .ref p_this), (1, .int x1), (2, .int x2), (3, .int x3_22), (4, .int x4_22)]) hx hb dX6_second_35 hl (by decide) rfl (fun ls hl => ?_)
            have X79 : ∀ (x5_79 : Int32) (H : Heap) (locs : List Loc), va_P (dC, dI) vwCl [(p_this, .inr (6, [.int d_dishes, .int d_speakers, .ref p_speaker, .int d_noises, .ref p_noise, .int d_askers, .ref p_asker, .ref p_st, .ref p_images, .ref p_isKept, .long d_trace, .ref p_text, .int d_texted, .int d_cursor, .int d_start, .int d_token, .int d_number, .long d_word, .int d_isWrong, .int d_saidDishes, .ref p_saidMount, .int d_saidSpeakers, .ref p_saidSpeaker, .int d_saidNoises, .ref p_saidNoise, .int d_saidAskers, .ref p_saidAsker, .ref p_room, .int d_couldBe, .int d_couldHere])), (p_st, .inl (cI, 104, .inl d_st))] H → va_D A [(p_this, .inr (6, [.int d_dishes, .int d_speakers, .ref p_speaker, .int d_noises, .ref p_noise, .int d_askers, .ref p_asker, .ref p_st, .ref p_images, .ref p_isKept, .long d_trace, .ref p_text, .int d_texted, .int d_cursor, .int d_start, .int d_token, .int d_number, .long d_word, .int d_isWrong, .int d_saidDishes, .ref p_saidMount, .int d_saidSpeakers, .ref p_saidSpeaker, .int d_saidNoises, .ref p_saidNoise, .int d_saidAskers, .ref p_saidAsker, .ref p_room, .int d_couldBe, .int d_couldHere])), (p_st, .inl (cI, 104, .inl d_st))] → va_S A s.heap H locs → ∀ ls : Array Slot, lv_has ls 7 [(0, .ref p_this), (1, .int x1), (2, .int x2), (3, .int x3_22), (4, .int x4_22), (5, .int x5_79)] → f_X6_second_X79 (f_X6_second_L22 x1 x2 d_dishes d_st n9_22) x1 x2 x3_22 x4_22 d_dishes d_st x5_79 = some out → W p l e ({ frames := 2, cells := 0, slots := 0, locals := 43 } : Room) s m ([.ref p_this, .int x1, .int x2] : List Value).toArray below meth c H locs 0 0 Q (F0 m 79 ls []) := by
              intro x5_79 H locs hP hD hS ls hl hrun
              rw [f_X6_second_X79] at hrun
              refine lv_iload_n hx hb dX6_second_79 rfl (lv_at hl 3 rfl) ?_
              refine lv_iload hx hb dX6_second_80 (lv_at hl 4 rfl) ?_
              refine lv_iload_n hx hb dX6_second_82 rfl (lv_at hl 1 rfl) ?_
              have J96 : ∀ (t1_96 : Int32) (H : Heap) (locs : List Loc), va_P (dC, dI) vwCl [(p_this, .inr (6, [.int d_dishes, .int d_speakers, .ref p_speaker, .int d_noises, .ref p_noise, .int d_askers, .ref p_asker, .ref p_st, .ref p_images, .ref p_isKept, .long d_trace, .ref p_text, .int d_texted, .int d_cursor, .int d_start, .int d_token, .int d_number, .long d_word, .int d_isWrong, .int d_saidDishes, .ref p_saidMount, .int d_saidSpeakers, .ref p_saidSpeaker, .int d_saidNoises, .ref p_saidNoise, .int d_saidAskers, .ref p_saidAsker, .ref p_room, .int d_couldBe, .int d_couldHere])), (p_st, .inl (cI, 104, .inl d_st))] H → va_D A [(p_this, .inr (6, [.int d_dishes, .int d_speakers, .ref p_speaker, .int d_noises, .ref p_noise, .int d_askers, .ref p_asker, .ref p_st, .ref p_images, .ref p_isKept, .long d_trace, .ref p_text, .int d_texted, .int d_cursor, .int d_start, .int d_token, .int d_number, .long d_word, .int d_isWrong, .int d_saidDishes, .ref p_saidMount, .int d_saidSpeakers, .ref p_saidSpeaker, .int d_saidNoises, .ref p_saidNoise, .int d_saidAskers, .ref p_saidAsker, .ref p_room, .int d_couldBe, .int d_couldHere])), (p_st, .inl (cI, 104, .inl d_st))] → va_S A s.heap H locs → ∀ ls : Array Slot, lv_has ls 7 [(0, .ref p_this), (1, .int x1), (2, .int x2), (4, .int x4_22)] → f_X6_second_J96 (f_X6_second_L22 x1 x2 d_dishes d_st n9_22) x1 x2 x4_22 x3_22 d_dishes d_st t1_96 = some out → W p l e ({ frames := 2, cells := 0, slots := 0, locals := 43 } : Room) s m ([.ref p_this, .int x1, .int x2] : List Value).toArray below meth c H locs 0 0 Q (F0 m 96 ls [.int t1_96, .int x3_22]) := by
                intro t1_96 H locs hP hD hS ls hl hrun
                rw [f_X6_second_J96] at hrun
                refine lv_iadd hx hb dX6_second_96 ?_
                refine lv_istore_n (lv' := [(3, .int (x3_22 + t1_96)), (0, .ref p_this), (1, .int x1), (2, .int x2), (4, .int x4_22)]) hx hb dX6_second_97 rfl hl (by decide) rfl (fun ls hl => ?_)
                refine lv_iinc (v := x4_22 + 1) (lv' := [(4, .int (x4_22 + 1)), (3, .int (x3_22 + t1_96)), (0, .ref p_this), (1, .int x1), (2, .int x2)]) hx hb dX6_second_98 hl (k := 4) rfl rfl (by decide) rfl (fun ls hl => ?_)
                refine lv_goto (tgt := 22) hx hb dX6_second_101 (by decide) ?_
                exact ih22 (x3_22 + t1_96) (x4_22 + 1) H locs hP hD hS ls (lv_sub hl [2, 3, 4, 1, 0] rfl) hrun
              refine lv_icmp_eq (tgt := 95) hx hb dX6_second_83 (by decide) (fun c_83 => ?_) (fun c_83 => ?_)
              · rw [if_pos c_83] at hrun
                refine lv_iconst (v := 0) hx hb dX6_second_95 (by decide) ?_
                exact J96 0 H locs hP hD hS ls (lv_sub hl [0, 1, 2, 4] rfl) hrun
              · rw [if_neg c_83] at hrun
                refine lv_iload hx hb dX6_second_86 (lv_at hl 5 rfl) ?_
                refine lv_if_eq (tgt := 95) hx hb dX6_second_88 (by decide) (fun c_88 => ?_) (fun c_88 => ?_)
                · rw [if_pos c_88] at hrun
                  refine lv_iconst (v := 0) hx hb dX6_second_95 (by decide) ?_
                  exact J96 0 H locs hP hD hS ls (lv_sub hl [0, 1, 2, 4] rfl) hrun
                · rw [if_neg c_88] at hrun
                  refine lv_iconst (v := 1) hx hb dX6_second_91 (by decide) ?_
                  refine lv_goto (tgt := 96) hx hb dX6_second_92 (by decide) ?_
                  exact J96 1 H locs hP hD hS ls (lv_sub hl [0, 1, 2, 4] rfl) hrun
            have L37 : ∀ (n9_37 : Nat) (x5_37 : Int32) (x6_37 : Int32) (H : Heap) (locs : List Loc), va_P (dC, dI) vwCl [(p_this, .inr (6, [.int d_dishes, .int d_speakers, .ref p_speaker, .int d_noises, .ref p_noise, .int d_askers, .ref p_asker, .ref p_st, .ref p_images, .ref p_isKept, .long d_trace, .ref p_text, .int d_texted, .int d_cursor, .int d_start, .int d_token, .int d_number, .long d_word, .int d_isWrong, .int d_saidDishes, .ref p_saidMount, .int d_saidSpeakers, .ref p_saidSpeaker, .int d_saidNoises, .ref p_saidNoise, .int d_saidAskers, .ref p_saidAsker, .ref p_room, .int d_couldBe, .int d_couldHere])), (p_st, .inl (cI, 104, .inl d_st))] H → va_D A [(p_this, .inr (6, [.int d_dishes, .int d_speakers, .ref p_speaker, .int d_noises, .ref p_noise, .int d_askers, .ref p_asker, .ref p_st, .ref p_images, .ref p_isKept, .long d_trace, .ref p_text, .int d_texted, .int d_cursor, .int d_start, .int d_token, .int d_number, .long d_word, .int d_isWrong, .int d_saidDishes, .ref p_saidMount, .int d_saidSpeakers, .ref p_saidSpeaker, .int d_saidNoises, .ref p_saidNoise, .int d_saidAskers, .ref p_saidAsker, .ref p_room, .int d_couldBe, .int d_couldHere])), (p_st, .inl (cI, 104, .inl d_st))] → va_S A s.heap H locs → ∀ ls : Array Slot, lv_has ls 7 [(0, .ref p_this), (1, .int x1), (2, .int x2), (3, .int x3_22), (4, .int x4_22), (5, .int x5_37), (6, .int x6_37)] → f_X6_second_L37 (f_X6_second_X79 (f_X6_second_L22 x1 x2 d_dishes d_st n9_22) x1 x2 x3_22 x4_22 d_dishes d_st) x1 x2 x3_22 x4_22 d_dishes d_st n9_37 x5_37 x6_37 = some out → W p l e ({ frames := 2, cells := 0, slots := 0, locals := 43 } : Room) s m ([.ref p_this, .int x1, .int x2] : List Value).toArray below meth c H locs 0 0 Q (F0 m 37 ls []) := by
              intro n9_37
              induction n9_37 with
              | zero =>
                intro x5_37 x6_37 H locs hP hD hS ls hl hrun
                rw [f_X6_second_L37] at hrun
                cases hrun
              | succ n9_37 ih37 =>
                intro x5_37 x6_37 H locs hP hD hS ls hl hrun
                rw [f_X6_second_L37] at hrun
                refine lv_iload hx hb dX6_second_37 (lv_at hl 6 rfl) ?_
                refine lv_bipush (v := 24) hx hb dX6_second_39 (by decide) ?_
                refine lv_icmp_ge (tgt := 79) hx hb dX6_second_41 (by decide) (fun c_41 => ?_) (fun c_41 => ?_)
                · rw [if_pos c_41] at hrun
                  exact X79 x5_37 H locs hP hD hS ls (lv_sub hl [0, 1, 2, 3, 4, 5] rfl) hrun
                · rw [if_neg c_41] at hrun
                  refine lv_iload hx hb dX6_second_44 (lv_at hl 5 rfl) ?_
                  have J71 : ∀ (t0_71 : Int32) (H : Heap) (locs : List Loc), va_P (dC, dI) vwCl [(p_this, .inr (6, [.int d_dishes, .int d_speakers, .ref p_speaker, .int d_noises, .ref p_noise, .int d_askers, .ref p_asker, .ref p_st, .ref p_images, .ref p_isKept, .long d_trace, .ref p_text, .int d_texted, .int d_cursor, .int d_start, .int d_token, .int d_number, .long d_word, .int d_isWrong, .int d_saidDishes, .ref p_saidMount, .int d_saidSpeakers, .ref p_saidSpeaker, .int d_saidNoises, .ref p_saidNoise, .int d_saidAskers, .ref p_saidAsker, .ref p_room, .int d_couldBe, .int d_couldHere])), (p_st, .inl (cI, 104, .inl d_st))] H → va_D A [(p_this, .inr (6, [.int d_dishes, .int d_speakers, .ref p_speaker, .int d_noises, .ref p_noise, .int d_askers, .ref p_asker, .ref p_st, .ref p_images, .ref p_isKept, .long d_trace, .ref p_text, .int d_texted, .int d_cursor, .int d_start, .int d_token, .int d_number, .long d_word, .int d_isWrong, .int d_saidDishes, .ref p_saidMount, .int d_saidSpeakers, .ref p_saidSpeaker, .int d_saidNoises, .ref p_saidNoise, .int d_saidAskers, .ref p_saidAsker, .ref p_room, .int d_couldBe, .int d_couldHere])), (p_st, .inl (cI, 104, .inl d_st))] → va_S A s.heap H locs → ∀ ls : Array Slot, lv_has ls 7 [(0, .ref p_this), (1, .int x1), (2, .int x2), (3, .int x3_22), (4, .int x4_22), (6, .int x6_37)] → f_X6_second_J71 (f_X6_second_L37 (f_X6_second_X79 (f_X6_second_L22 x1 x2 d_dishes d_st n9_22) x1 x2 x3_22 x4_22 d_dishes d_st) x1 x2 x3_22 x4_22 d_dishes d_st n9_37) x1 x2 x3_22 x4_22 x6_37 d_dishes d_st t0_71 = some out → W p l e ({ frames := 2, cells := 0, slots := 0, locals := 43 } : Room) s m ([.ref p_this, .int x1, .int x2] : List Value).toArray below meth c H locs 0 0 Q (F0 m 71 ls [.int t0_71]) := by
                    intro t0_71 H locs hP hD hS ls hl hrun
                    rw [f_X6_second_J71] at hrun
                    refine lv_istore (lv' := [(5, .int t0_71), (0, .ref p_this), (1, .int x1), (2, .int x2), (3, .int x3_22), (4, .int x4_22), (6, .int x6_37)]) hx hb dX6_second_71 hl (by decide) rfl (fun ls hl => ?_)
                    refine lv_iinc (v := x6_37 + 1) (lv' := [(6, .int (x6_37 + 1)), (5, .int t0_71), (0, .ref p_this), (1, .int x1), (2, .int x2), (3, .int x3_22), (4, .int x4_22)]) hx hb dX6_second_73 hl (k := 6) rfl rfl (by decide) rfl (fun ls hl => ?_)
                    refine lv_goto (tgt := 37) hx hb dX6_second_76 (by decide) ?_
                    exact ih37 t0_71 (x6_37 + 1) H locs hP hD hS ls (lv_sub hl [2, 3, 4, 5, 6, 1, 0] rfl) hrun
                  refine lv_if_ne (tgt := 66) hx hb dX6_second_46 (by decide) (fun c_46 => ?_) (fun c_46 => ?_)
                  · rw [if_neg c_46] at hrun
                    refine lv_iconst (v := 1) hx hb dX6_second_66 (by decide) ?_
                    refine lv_goto (tgt := 71) hx hb dX6_second_67 (by decide) ?_
                    exact J71 1 H locs hP hD hS ls (lv_sub hl [0, 1, 2, 3, 4, 6] rfl) hrun
                  · rw [if_pos c_46] at hrun
                    refine lv_aload_n hx hb dX6_second_49 rfl (lv_at hl 0 rfl) ?_
                    refine lv_iload hx hb dX6_second_50 (lv_at hl 4 rfl) ?_
                    refine lv_iload hx hb dX6_second_52 (lv_at hl 6 rfl) ?_
                    obtain ⟨q54, hq54, hrun⟩ := bind_out hrun
                    have hPc : va_P (dC, dI) vwCl [(p_this, .inr (6, [.int d_dishes, .int d_speakers, .ref p_speaker, .int d_noises, .ref p_noise, .int d_askers, .ref p_asker, .ref p_st, .ref p_images, .ref p_isKept, .long d_trace, .ref p_text, .int d_texted, .int d_cursor, .int d_start, .int d_token, .int d_number, .long d_word, .int d_isWrong, .int d_saidDishes, .ref p_saidMount, .int d_saidSpeakers, .ref p_saidSpeaker, .int d_saidNoises, .ref p_saidNoise, .int d_saidAskers, .ref p_saidAsker, .ref p_room, .int d_couldBe, .int d_couldHere])), (p_st, .inl (cI, 104, .inl d_st))] H := hP.sub [0, 1] rfl
                    have hDc : va_D A [(p_this, .inr (6, [.int d_dishes, .int d_speakers, .ref p_speaker, .int d_noises, .ref p_noise, .int d_askers, .ref p_asker, .ref p_st, .ref p_images, .ref p_isKept, .long d_trace, .ref p_text, .int d_texted, .int d_cursor, .int d_start, .int d_token, .int d_number, .long d_word, .int d_isWrong, .int d_saidDishes, .ref p_saidMount, .int d_saidSpeakers, .ref p_saidSpeaker, .int d_saidNoises, .ref p_saidNoise, .int d_saidAskers, .ref p_saidAsker, .ref p_room, .int d_couldBe, .int d_couldHere])), (p_st, .inl (cI, 104, .inl d_st))] := hD.sub [0, 1] (by decide) rfl
                    have hFc := va_free (wc := [(p_this, .inr (6, [.int d_dishes, .int d_speakers, .ref p_speaker, .int d_noises, .ref p_noise, .int d_askers, .ref p_asker, .ref p_st, .ref p_images, .ref p_isKept, .long d_trace, .ref p_text, .int d_texted, .int d_cursor, .int d_start, .int d_token, .int d_number, .long d_word, .int d_isWrong, .int d_saidDishes, .ref p_saidMount, .int d_saidSpeakers, .ref p_saidSpeaker, .int d_saidNoises, .ref p_saidNoise, .int d_saidAskers, .ref p_saidAsker, .ref p_room, .int d_couldBe, .int d_couldHere])), (p_st, .inl (cI, 104, .inl d_st))]) hD hS hA [0, 1] rfl
                    refine va_calli (va_runV (As := [.int x4_22, .int x6_37]) (rest := []) ⟨hx, hb, hml, hown, hts⟩ (c_X6_looksOf l dC dI cI cZ H.size p_asker p_images p_isKept p_noise p_room p_saidAsker p_saidMount p_saidNoise p_saidSpeaker p_speaker p_st p_text p_this d_dishes d_speakers d_noises d_askers d_trace d_texted d_cursor d_start d_token d_number d_word d_isWrong d_saidDishes d_saidSpeakers d_saidNoises d_saidAskers d_couldBe d_couldHere d_st x4_22 x6_37 q54 hq54) (cwV 2 hts gX6_second_X6_looksOf rfl rfl rfl (by decide +kernel) ⟨Nat.le_of_ble_eq_true rfl, Nat.le_of_ble_eq_true rfl⟩) ⟨fun a U g mk q => ⟨q.1, PC.mv q.2⟩, va_recv hK hP (ci := 6) (q0 := 0) rfl rfl, fun U hU hW => ⟨rfl, PC.of hU hW hPc hK hDc hN⟩⟩ rfl rfl hl.1 rfl (lv_room (Nat.le_of_ble_eq_true rfl)) dX6_second_54 ⟨Nat.zero_le _, Nat.zero_le _⟩) hS (fun q _ h => hFc q h) hFc (fun r_54 u t H1 locs ht hvm hw hB hz1 hk1 hS => ?_)
                    obtain ⟨hP1, hD1⟩ := hB
                    try dsimp only at hw
                    rw [hw]
                    rw [ht] at hP1
                    have hP : va_P (dC, dI) vwCl [(p_this, .inr (6, [.int d_dishes, .int d_speakers, .ref p_speaker, .int d_noises, .ref p_noise, .int d_askers, .ref p_asker, .ref p_st, .ref p_images, .ref p_isKept, .long d_trace, .ref p_text, .int d_texted, .int d_cursor, .int d_start, .int d_token, .int d_number, .long d_word, .int d_isWrong, .int d_saidDishes, .ref p_saidMount, .int d_saidSpeakers, .ref p_saidSpeaker, .int d_saidNoises, .ref p_saidNoise, .int d_saidAskers, .ref p_saidAsker, .ref p_room, .int d_couldBe, .int d_couldHere])), (p_st, .inl (cI, 104, .inl d_st))] H1 := join_ro hP hD [0, 1] rfl hk1 hP1
                    clear hPc hDc hFc hk1 hz1 hP1 hD1 ht hvm
                    generalize H1 = H at hP hS ⊢
                    refine lv_aload_n hx hb dX6_second_57 rfl (lv_at hl 0 rfl) ?_
                    refine lv_iload_n hx hb dX6_second_58 rfl (lv_at hl 1 rfl) ?_
                    refine lv_iload_n hx hb dX6_second_59 rfl (lv_at hl 2 rfl) ?_
                    obtain ⟨q60, hq60, hrun⟩ := bind_out hrun
                    have hPc : va_P (dC, dI) vwCl [(p_this, .inr (6, [.int d_dishes, .int d_speakers, .ref p_speaker, .int d_noises, .ref p_noise, .int d_askers, .ref p_asker, .ref p_st, .ref p_images, .ref p_isKept, .long d_trace, .ref p_text, .int d_texted, .int d_cursor, .int d_start, .int d_token, .int d_number, .long d_word, .int d_isWrong, .int d_saidDishes, .ref p_saidMount, .int d_saidSpeakers, .ref p_saidSpeaker, .int d_saidNoises, .ref p_saidNoise, .int d_saidAskers, .ref p_saidAsker, .ref p_room, .int d_couldBe, .int d_couldHere])), (p_st, .inl (cI, 104, .inl d_st))] H := hP.sub [0, 1] rfl
                    have hDc : va_D A [(p_this, .inr (6, [.int d_dishes, .int d_speakers, .ref p_speaker, .int d_noises, .ref p_noise, .int d_askers, .ref p_asker, .ref p_st, .ref p_images, .ref p_isKept, .long d_trace, .ref p_text, .int d_texted, .int d_cursor, .int d_start, .int d_token, .int d_number, .long d_word, .int d_isWrong, .int d_saidDishes, .ref p_saidMount, .int d_saidSpeakers, .ref p_saidSpeaker, .int d_saidNoises, .ref p_saidNoise, .int d_saidAskers, .ref p_saidAsker, .ref p_room, .int d_couldBe, .int d_couldHere])), (p_st, .inl (cI, 104, .inl d_st))] := hD.sub [0, 1] (by decide) rfl
                    have hFc := va_free (wc := [(p_this, .inr (6, [.int d_dishes, .int d_speakers, .ref p_speaker, .int d_noises, .ref p_noise, .int d_askers, .ref p_asker, .ref p_st, .ref p_images, .ref p_isKept, .long d_trace, .ref p_text, .int d_texted, .int d_cursor, .int d_start, .int d_token, .int d_number, .long d_word, .int d_isWrong, .int d_saidDishes, .ref p_saidMount, .int d_saidSpeakers, .ref p_saidSpeaker, .int d_saidNoises, .ref p_saidNoise, .int d_saidAskers, .ref p_saidAsker, .ref p_room, .int d_couldBe, .int d_couldHere])), (p_st, .inl (cI, 104, .inl d_st))]) hD hS hA [0, 1] rfl
                    refine va_calli (va_runV (As := [.int x1, .int x2]) (rest := [.int q54]) ⟨hx, hb, hml, hown, hts⟩ (c_X6_looksOf l dC dI cI cZ H.size p_asker p_images p_isKept p_noise p_room p_saidAsker p_saidMount p_saidNoise p_saidSpeaker p_speaker p_st p_text p_this d_dishes d_speakers d_noises d_askers d_trace d_texted d_cursor d_start d_token d_number d_word d_isWrong d_saidDishes d_saidSpeakers d_saidNoises d_saidAskers d_couldBe d_couldHere d_st x1 x2 q60 hq60) (cwV 2 hts gX6_second_X6_looksOf rfl rfl rfl (by decide +kernel) ⟨Nat.le_of_ble_eq_true rfl, Nat.le_of_ble_eq_true rfl⟩) ⟨fun a U g mk q => ⟨q.1, PC.mv q.2⟩, va_recv hK hP (ci := 6) (q0 := 0) rfl rfl, fun U hU hW => ⟨rfl, PC.of hU hW hPc hK hDc hN⟩⟩ rfl rfl hl.1 rfl (lv_room (Nat.le_of_ble_eq_true rfl)) dX6_second_60 ⟨Nat.zero_le _, Nat.zero_le _⟩) hS (fun q _ h => hFc q h) hFc (fun r_60 u t H1 locs ht hvm hw hB hz1 hk1 hS => ?_)
                    obtain ⟨hP1, hD1⟩ := hB
                    try dsimp only at hw
                    rw [hw]
                    rw [ht] at hP1
                    have hP : va_P (dC, dI) vwCl [(p_this, .inr (6, [.int d_dishes, .int d_speakers, .ref p_speaker, .int d_noises, .ref p_noise, .int d_askers, .ref p_asker, .ref p_st, .ref p_images, .ref p_isKept, .long d_trace, .ref p_text, .int d_texted, .int d_cursor, .int d_start, .int d_token, .int d_number, .long d_word, .int d_isWrong, .int d_saidDishes, .ref p_saidMount, .int d_saidSpeakers, .ref p_saidSpeaker, .int d_saidNoises, .ref p_saidNoise, .int d_saidAskers, .ref p_saidAsker, .ref p_room, .int d_couldBe, .int d_couldHere])), (p_st, .inl (cI, 104, .inl d_st))] H1 := join_ro hP hD [0, 1] rfl hk1 hP1
                    clear hPc hDc hFc hk1 hz1 hP1 hD1 ht hvm
                    generalize H1 = H at hP hS ⊢
                    refine lv_icmp_ne (tgt := 70) hx hb dX6_second_63 (by decide) (fun c_63 => ?_) (fun c_63 => ?_)
                    · rw [if_neg c_63] at hrun
                      refine lv_iconst (v := 0) hx hb dX6_second_70 (by decide) ?_
                      exact J71 0 H locs hP hD hS ls (lv_sub hl [0, 1, 2, 3, 4, 6] rfl) hrun
                    · rw [if_pos c_63] at hrun
                      refine lv_iconst (v := 1) hx hb dX6_second_66 (by decide) ?_
                      refine lv_goto (tgt := 71) hx hb dX6_second_67 (by decide) ?_
                      exact J71 1 H locs hP hD hS ls (lv_sub hl [0, 1, 2, 3, 4, 6] rfl) hrun
            exact L37 FU 0 x2 H locs hP hD hS ls (lv_sub hl [2, 3, 4, 5, 6, 1, 0] rfl) hrun
      exact L22 FU 0 0 H locs hP hD hS ls (lv_sub hl [2, 3, 4, 1, 0] rfl) hrun
    · rw [if_pos c_12] at hrun
      refine lv_iconst (v := (-1)) hx hb dX6_second_15 (by decide) ?_
      have hrun := Option.some.inj hrun
      subst hrun
      rw [hQ]
      exact W.iret (v := (-1)) hx hb hr (fun t ht hW => ⟨⟨(-1), (), rfl, rfl, by rw [ht]; exact hP, hD⟩, hS.F ht⟩) hS.2.2 dX6_second_16
-- SkyListenersModel.noteMark
def f_X6_noteMark (d_trace : Int64) (x1 : Int32) : Int32 × Int64 := ((x1, d_trace + 1))
set_option maxHeartbeats 4000000 in
set_option maxRecDepth 100000 in
theorem c_X6_noteMark (l : Launch) (dC : Nat → ClassId) (dI : Nat → Nat → Nat) (cI cZ : ClassId) (sz : Nat) (p_asker p_images p_isKept p_noise p_room p_saidAsker p_saidMount p_saidNoise p_saidSpeaker p_speaker p_st p_text p_this : Nat) (d_dishes : Int32) (d_speakers : Int32) (d_noises : Int32) (d_askers : Int32) (d_trace : Int64) (d_texted : Int32) (d_cursor : Int32) (d_start : Int32) (d_token : Int32) (d_number : Int32) (d_word : Int64) (d_isWrong : Int32) (d_saidDishes : Int32) (d_saidSpeakers : Int32) (d_saidNoises : Int32) (d_saidAskers : Int32) (d_couldBe : Int32) (d_couldHere : Int32) (x1 : Int32) (out : Int32 × Int64) (hrun : f_X6_noteMark d_trace x1 = out) : Met l yX6_noteMark wsX6_noteMark ({ frames := 0, cells := 0, slots := 0, locals := 0 } : Room) (va_Pc [.ref p_this, .int x1] (PC dC dI cI cZ sz ([(p_this, .inr (6, [.int d_dishes, .int d_speakers, .ref p_speaker, .int d_noises, .ref p_noise, .int d_askers, .ref p_asker, .ref p_st, .ref p_images, .ref p_isKept, .long d_trace, .ref p_text, .int d_texted, .int d_cursor, .int d_start, .int d_token, .int d_number, .long d_word, .int d_isWrong, .int d_saidDishes, .ref p_saidMount, .int d_saidSpeakers, .ref p_saidSpeaker, .int d_saidNoises, .ref p_saidNoise, .int d_saidAskers, .ref p_saidAsker, .ref p_room, .int d_couldBe, .int d_couldHere]))] : va_W))) (va_Qi (fun r (_ : Unit) => r = out.1) (fun _ t => va_P (dC, dI) vwCl [(p_this, .inr (6, [.int d_dishes, .int d_speakers, .ref p_speaker, .int d_noises, .ref p_noise, .int d_askers, .ref p_asker, .ref p_st, .ref p_images, .ref p_isKept, .long out.2, .ref p_text, .int d_texted, .int d_cursor, .int d_start, .int d_token, .int d_number, .long d_word, .int d_isWrong, .int d_saidDishes, .ref p_saidMount, .int d_saidSpeakers, .ref p_saidSpeaker, .int d_saidNoises, .ref p_saidNoise, .int d_saidAskers, .ref p_saidAsker, .ref p_room, .int d_couldBe, .int d_couldHere]))] t.heap ∧ va_D (va_A ([(p_this, .inr (6, [.int d_dishes, .int d_speakers, .ref p_speaker, .int d_noises, .ref p_noise, .int d_askers, .ref p_asker, .ref p_st, .ref p_images, .ref p_isKept, .long d_trace, .ref p_text, .int d_texted, .int d_cursor, .int d_start, .int d_token, .int d_number, .long d_word, .int d_isWrong, .int d_saidDishes, .ref p_saidMount, .int d_saidSpeakers, .ref p_saidSpeaker, .int d_saidNoises, .ref p_saidNoise, .int d_saidAskers, .ref p_saidAsker, .ref p_room, .int d_couldBe, .int d_couldHere]))] : va_W) sz) [(p_this, .inr (6, [.int d_dishes, .int d_speakers, .ref p_speaker, .int d_noises, .ref p_noise, .int d_askers, .ref p_asker, .ref p_st, .ref p_images, .ref p_isKept, .long out.2, .ref p_text, .int d_texted, .int d_cursor, .int d_start, .int d_token, .int d_number, .long d_word, .int d_isWrong, .int d_saidDishes, .ref p_saidMount, .int d_saidSpeakers, .ref p_saidSpeaker, .int d_saidNoises, .ref p_saidNoise, .int d_saidAskers, .ref p_saidAsker, .ref p_room, .int d_couldBe, .int d_couldHere]))]) (va_A ([(p_this, .inr (6, [.int d_dishes, .int d_speakers, .ref p_speaker, .int d_noises, .ref p_noise, .int d_askers, .ref p_asker, .ref p_st, .ref p_images, .ref p_isKept, .long d_trace, .ref p_text, .int d_texted, .int d_cursor, .int d_start, .int d_token, .int d_number, .long d_word, .int d_isWrong, .int d_saidDishes, .ref p_saidMount, .int d_saidSpeakers, .ref p_saidSpeaker, .int d_saidNoises, .ref p_saidNoise, .int d_saidAskers, .ref p_saidAsker, .ref p_room, .int d_couldBe, .int d_couldHere]))] : va_W) sz)) 0 0 (va_A ([(p_this, .inr (6, [.int d_dishes, .int d_speakers, .ref p_speaker, .int d_noises, .ref p_noise, .int d_askers, .ref p_asker, .ref p_st, .ref p_images, .ref p_isKept, .long d_trace, .ref p_text, .int d_texted, .int d_cursor, .int d_start, .int d_token, .int d_number, .long d_word, .int d_isWrong, .int d_saidDishes, .ref p_saidMount, .int d_saidSpeakers, .ref p_saidSpeaker, .int d_saidNoises, .ref p_saidNoise, .int d_saidAskers, .ref p_saidAsker, .ref p_room, .int d_couldBe, .int d_couldHere]))] : va_W) sz) := by
  refine Met.ofW (cc := cX6_noteMark) (maxL := 2) (ret := (some .int)) (by decide) rfl ?_
  intro p e s m args below meth c s₁ B hml hv
  obtain ⟨rfl, hsz, hP, hK, hD0, hN⟩ := hv
  have hx := B.exec
  have hb := B.bytes
  have hr := B.returns
  have hts := atoms_spec (ws := wsX6_noteMark) B.pre
  have hown : s.vm.findClass RX6 = some m.cls := findClass_of_methodNamed B.named
  have hlocks := B.notSynchronized
  subst hsz
  have hD := hD0.self (sz := s.heap.size)
  generalize hAe : va_A ([(p_this, .inr (6, [.int d_dishes, .int d_speakers, .ref p_speaker, .int d_noises, .ref p_noise, .int d_askers, .ref p_asker, .ref p_st, .ref p_images, .ref p_isKept, .long d_trace, .ref p_text, .int d_texted, .int d_cursor, .int d_start, .int d_token, .int d_number, .long d_word, .int d_isWrong, .int d_saidDishes, .ref p_saidMount, .int d_saidSpeakers, .ref p_saidSpeaker, .int d_saidNoises, .ref p_saidNoise, .int d_saidAskers, .ref p_saidAsker, .ref p_room, .int d_couldBe, .int d_couldHere]))] : va_W) s.heap.size = A at hD ⊢
  have hA : ∀ q : Nat, s.heap.size ≤ q → A q := fun q h => by rw [← hAe]; exact Or.inr h
  have hS : va_S A s.heap s.heap [] := va_S.rf
  refine W_abs (fun Q hQ => ?_)
  have hl := lv_entry ([.ref p_this, .int x1]) (n := 2) (Nat.le_of_ble_eq_true rfl)
  rw [lg_entry_eq]
  generalize (lg_sl ([.ref p_this, .int x1]) ++ List.replicate (2 - (lg_sl ([.ref p_this, .int x1])).length) Slot.unset).toArray = ls at hl ⊢
  have hl : lv_has ls 2 [(0, .ref p_this), (1, .int x1)] := hl
  rw [f_X6_noteMark] at hrun
  refine W_start (ws := [(p_this, .inr (6, [.int d_dishes, .int d_speakers, .ref p_speaker, .int d_noises, .ref p_noise, .int d_askers, .ref p_asker, .ref p_st, .ref p_images, .ref p_isKept, .long d_trace, .ref p_text, .int d_texted, .int d_cursor, .int d_start, .int d_token, .int d_number, .long d_word, .int d_isWrong, .int d_saidDishes, .ref p_saidMount, .int d_saidSpeakers, .ref p_saidSpeaker, .int d_saidNoises, .ref p_saidNoise, .int d_saidAskers, .ref p_saidAsker, .ref p_room, .int d_couldBe, .int d_couldHere]))]) hP hS (fun H locs hP hS => ?_)
  have iwX6 : ∀ w ∈ wsX60, w ∈ wsX6_noteMark := by decide +kernel
  refine lv_aload_n hx hb dX6_noteMark_0 rfl (lv_at hl 0 rfl) ?_
  refine lv_dup hx hb dX6_noteMark_1 rfl ?_
  refine va_get (D := (dC, dI)) (ci := 6) (v := .long d_trace) (C := RX6) (T := TX6) (N := 30) hx hb hts iwX6 hown hK hP 0 rfl rfl 10 (by decide) (hts (.fieldLink RX6 207 "SkyListenersModel" "trace" "J") (by decide +kernel)) (fun _ h9 => h9) rfl dX6_noteMark_2 ?_
  refine lv_lconst (v := 1) hx hb dX6_noteMark_5 (by decide) ?_
  refine lv_ladd hx hb dX6_noteMark_6 ?_
  refine va_put (D := (dC, dI)) (ci := 6) (v := .long (d_trace + 1)) (ty := .long) (C := RX6) (T := TX6) (N := 30) hx hb hts iwX6 tyX6 tyX6_ok nmX6 hown hK hP hD hS 0 rfl rfl 10 (by decide) (hts (.fieldLink RX6 207 "SkyListenersModel" "trace" "J") (by decide +kernel)) (fun _ h9 => h9) rfl (by decide +kernel) rfl rfl (Nat.le_of_ble_eq_true rfl) dX6_noteMark_7 (fun H locs hP hD hS => ?_)
  have hP : va_P (dC, dI) vwCl [(p_this, .inr (6, [.int d_dishes, .int d_speakers, .ref p_speaker, .int d_noises, .ref p_noise, .int d_askers, .ref p_asker, .ref p_st, .ref p_images, .ref p_isKept, .long (d_trace + 1), .ref p_text, .int d_texted, .int d_cursor, .int d_start, .int d_token, .int d_number, .long d_word, .int d_isWrong, .int d_saidDishes, .ref p_saidMount, .int d_saidSpeakers, .ref p_saidSpeaker, .int d_saidNoises, .ref p_saidNoise, .int d_saidAskers, .ref p_saidAsker, .ref p_room, .int d_couldBe, .int d_couldHere]))] H := hP
  have hD : va_D A [(p_this, .inr (6, [.int d_dishes, .int d_speakers, .ref p_speaker, .int d_noises, .ref p_noise, .int d_askers, .ref p_asker, .ref p_st, .ref p_images, .ref p_isKept, .long (d_trace + 1), .ref p_text, .int d_texted, .int d_cursor, .int d_start, .int d_token, .int d_number, .long d_word, .int d_isWrong, .int d_saidDishes, .ref p_saidMount, .int d_saidSpeakers, .ref p_saidSpeaker, .int d_saidNoises, .ref p_saidNoise, .int d_saidAskers, .ref p_saidAsker, .ref p_room, .int d_couldBe, .int d_couldHere]))] := hD
  refine lv_iload_n hx hb dX6_noteMark_10 rfl (lv_at hl 1 rfl) ?_
  have hrun := hrun
  subst hrun
  rw [hQ]
  exact W.iret (v := x1) hx hb hr (fun t ht hW => ⟨⟨x1, (), rfl, rfl, by rw [ht]; exact hP, hD⟩, hS.F ht⟩) hS.2.2 dX6_noteMark_11
-- SkyListenersModel.voiceMark
def f_X6_voiceMark_X52 (x1 : Int32) (d_trace : Int64) (x2 : Int32) : Option (Int32 × Int64) := (some (((f_X6_noteMark d_trace x1).1) + x2, (f_X6_noteMark d_trace x1).2))
def f_X6_voiceMark_J44 (K16 : Int32 → Int32 → Option (Int32 × Int64)) (x1 : Int32) (x3 : Int32) (t0 : Int32) (d_speakers : Int32) (d_trace : Int64) (d_speaker : Nat → Int32) (t1 : Int32) : Option (Int32 × Int64) := (K16 (t0 + t1) (x3 + 1))
def f_X6_voiceMark_L16 (K52 : Int32 → Option (Int32 × Int64)) (x1 : Int32) (d_speakers : Int32) (d_trace : Int64) (d_speaker : Nat → Int32) : Nat → Int32 → Int32 → Option (Int32 × Int64)
  | 0, _, _ => none
  | n9 + 1, x2, x3 => (if d_speakers ≤ x3 then (K52 x2) else (if ((4 * x3) + 1) < 0 ∨ 20 ≤ ((4 * x3) + 1).toNatClampNeg then none else (if (d_speaker ((4 * x3) + 1).toNatClampNeg) = x1 then (f_X6_voiceMark_J44 (f_X6_voiceMark_L16 K52 x1 d_speakers d_trace d_speaker n9) x1 x3 x2 d_speakers d_trace d_speaker 1) else (f_X6_voiceMark_J44 (f_X6_voiceMark_L16 K52 x1 d_speakers d_trace d_speaker n9) x1 x3 x2 d_speakers d_trace d_speaker 0))))
def f_X6_voiceMark (d_speakers : Int32) (d_trace : Int64) (d_speaker : Nat → Int32) (x1 : Int32) : Option (Int32 × Int64) := (f_X6_voiceMark_L16 (f_X6_voiceMark_X52 x1 (d_trace + 10)) x1 d_speakers (d_trace + 10) d_speaker FU 0 0)
set_option maxHeartbeats 4000000 in
set_option maxRecDepth 100000 in
theorem c_X6_voiceMark (l : Launch) (dC : Nat → ClassId) (dI : Nat → Nat → Nat) (cI cZ : ClassId) (sz : Nat) (p_asker p_images p_isKept p_noise p_room p_saidAsker p_saidMount p_saidNoise p_saidSpeaker p_speaker p_st p_text p_this : Nat) (d_dishes : Int32) (d_speakers : Int32) (d_noises : Int32) (d_askers : Int32) (d_trace : Int64) (d_texted : Int32) (d_cursor : Int32) (d_start : Int32) (d_token : Int32) (d_number : Int32) (d_word : Int64) (d_isWrong : Int32) (d_saidDishes : Int32) (d_saidSpeakers : Int32) (d_saidNoises : Int32) (d_saidAskers : Int32) (d_couldBe : Int32) (d_couldHere : Int32) (d_speaker : Nat → Int32) (x1 : Int32) (out : Int32 × Int64) (hrun : f_X6_voiceMark d_speakers d_trace d_speaker x1 = some out) : Met l yX6_voiceMark wsX6_voiceMark ({ frames := 1, cells := 0, slots := 0, locals := 21 } : Room) (va_Pc [.ref p_this, .int x1] (PC dC dI cI cZ sz ([(p_this, .inr (6, [.int d_dishes, .int d_speakers, .ref p_speaker, .int d_noises, .ref p_noise, .int d_askers, .ref p_asker, .ref p_st, .ref p_images, .ref p_isKept, .long d_trace, .ref p_text, .int d_texted, .int d_cursor, .int d_start, .int d_token, .int d_number, .long d_word, .int d_isWrong, .int d_saidDishes, .ref p_saidMount, .int d_saidSpeakers, .ref p_saidSpeaker, .int d_saidNoises, .ref p_saidNoise, .int d_saidAskers, .ref p_saidAsker, .ref p_room, .int d_couldBe, .int d_couldHere])), (p_speaker, .inl (cI, 20, .inl d_speaker))] : va_W))) (va_Qi (fun r (_ : Unit) => r = out.1) (fun _ t => va_P (dC, dI) vwCl [(p_this, .inr (6, [.int d_dishes, .int d_speakers, .ref p_speaker, .int d_noises, .ref p_noise, .int d_askers, .ref p_asker, .ref p_st, .ref p_images, .ref p_isKept, .long out.2, .ref p_text, .int d_texted, .int d_cursor, .int d_start, .int d_token, .int d_number, .long d_word, .int d_isWrong, .int d_saidDishes, .ref p_saidMount, .int d_saidSpeakers, .ref p_saidSpeaker, .int d_saidNoises, .ref p_saidNoise, .int d_saidAskers, .ref p_saidAsker, .ref p_room, .int d_couldBe, .int d_couldHere])), (p_speaker, .inl (cI, 20, .inl d_speaker))] t.heap ∧ va_D (va_A ([(p_this, .inr (6, [.int d_dishes, .int d_speakers, .ref p_speaker, .int d_noises, .ref p_noise, .int d_askers, .ref p_asker, .ref p_st, .ref p_images, .ref p_isKept, .long d_trace, .ref p_text, .int d_texted, .int d_cursor, .int d_start, .int d_token, .int d_number, .long d_word, .int d_isWrong, .int d_saidDishes, .ref p_saidMount, .int d_saidSpeakers, .ref p_saidSpeaker, .int d_saidNoises, .ref p_saidNoise, .int d_saidAskers, .ref p_saidAsker, .ref p_room, .int d_couldBe, .int d_couldHere])), (p_speaker, .inl (cI, 20, .inl d_speaker))] : va_W) sz) [(p_this, .inr (6, [.int d_dishes, .int d_speakers, .ref p_speaker, .int d_noises, .ref p_noise, .int d_askers, .ref p_asker, .ref p_st, .ref p_images, .ref p_isKept, .long out.2, .ref p_text, .int d_texted, .int d_cursor, .int d_start, .int d_token, .int d_number, .long d_word, .int d_isWrong, .int d_saidDishes, .ref p_saidMount, .int d_saidSpeakers, .ref p_saidSpeaker, .int d_saidNoises, .ref p_saidNoise, .int d_saidAskers, .ref p_saidAsker, .ref p_room, .int d_couldBe, .int d_couldHere])), (p_speaker, .inl (cI, 20, .inl d_speaker))]) (va_A ([(p_this, .inr (6, [.int d_dishes, .int d_speakers, .ref p_speaker, .int d_noises, .ref p_noise, .int d_askers, .ref p_asker, .ref p_st, .ref p_images, .ref p_isKept, .long d_trace, .ref p_text, .int d_texted, .int d_cursor, .int d_start, .int d_token, .int d_number, .long d_word, .int d_isWrong, .int d_saidDishes, .ref p_saidMount, .int d_saidSpeakers, .ref p_saidSpeaker, .int d_saidNoises, .ref p_saidNoise, .int d_saidAskers, .ref p_saidAsker, .ref p_room, .int d_couldBe, .int d_couldHere])), (p_speaker, .inl (cI, 20, .inl d_speaker))] : va_W) sz)) 0 0 (va_A ([(p_this, .inr (6, [.int d_dishes, .int d_speakers, .ref p_speaker, .int d_noises, .ref p_noise, .int d_askers, .ref p_asker, .ref p_st, .ref p_images, .ref p_isKept, .long d_trace, .ref p_text, .int d_texted, .int d_cursor, .int d_start, .int d_token, .int d_number, .long d_word, .int d_isWrong, .int d_saidDishes, .ref p_saidMount, .int d_saidSpeakers, .ref p_saidSpeaker, .int d_saidNoises, .ref p_saidNoise, .int d_saidAskers, .ref p_saidAsker, .ref p_room, .int d_couldBe, .int d_couldHere])), (p_speaker, .inl (cI, 20, .inl d_speaker))] : va_W) sz) := by
  refine Met.ofW (cc := cX6_voiceMark) (maxL := 4) (ret := (some .int)) (by decide) rfl ?_
  intro p e s m args below meth c s₁ B hml hv
  obtain ⟨rfl, hsz, hP, hK, hD0, hN⟩ := hv
  have hx := B.exec
  have hb := B.bytes
  have hr := B.returns
  have hts := atoms_spec (ws := wsX6_voiceMark) B.pre
  have hown : s.vm.findClass RX6 = some m.cls := findClass_of_methodNamed B.named
  have hlocks := B.notSynchronized
  subst hsz
  have hD := hD0.self (sz := s.heap.size)
  generalize hAe : va_A ([(p_this, .inr (6, [.int d_dishes, .int d_speakers, .ref p_speaker, .int d_noises, .ref p_noise, .int d_askers, .ref p_asker, .ref p_st, .ref p_images, .ref p_isKept, .long d_trace, .ref p_text, .int d_texted, .int d_cursor, .int d_start, .int d_token, .int d_number, .long d_word, .int d_isWrong, .int d_saidDishes, .ref p_saidMount, .int d_saidSpeakers, .ref p_saidSpeaker, .int d_saidNoises, .ref p_saidNoise, .int d_saidAskers, .ref p_saidAsker, .ref p_room, .int d_couldBe, .int d_couldHere])), (p_speaker, .inl (cI, 20, .inl d_speaker))] : va_W) s.heap.size = A at hD ⊢
  have hA : ∀ q : Nat, s.heap.size ≤ q → A q := fun q h => by rw [← hAe]; exact Or.inr h
  have hS : va_S A s.heap s.heap [] := va_S.rf
  refine W_abs (fun Q hQ => ?_)
  have hl := lv_entry ([.ref p_this, .int x1]) (n := 4) (Nat.le_of_ble_eq_true rfl)
  rw [lg_entry_eq]
  generalize (lg_sl ([.ref p_this, .int x1]) ++ List.replicate (4 - (lg_sl ([.ref p_this, .int x1])).length) Slot.unset).toArray = ls at hl ⊢
  have hl : lv_has ls 4 [(0, .ref p_this), (1, .int x1)] := hl
  rw [f_X6_voiceMark] at hrun
  refine W_start (ws := [(p_this, .inr (6, [.int d_dishes, .int d_speakers, .ref p_speaker, .int d_noises, .ref p_noise, .int d_askers, .ref p_asker, .ref p_st, .ref p_images, .ref p_isKept, .long d_trace, .ref p_text, .int d_texted, .int d_cursor, .int d_start, .int d_token, .int d_number, .long d_word, .int d_isWrong, .int d_saidDishes, .ref p_saidMount, .int d_saidSpeakers, .ref p_saidSpeaker, .int d_saidNoises, .ref p_saidNoise, .int d_saidAskers, .ref p_saidAsker, .ref p_room, .int d_couldBe, .int d_couldHere])), (p_speaker, .inl (cI, 20, .inl d_speaker))]) hP hS (fun H locs hP hS => ?_)
  have iwX6 : ∀ w ∈ wsX60, w ∈ wsX6_voiceMark := by decide +kernel
  refine lv_aload_n hx hb dX6_voiceMark_0 rfl (lv_at hl 0 rfl) ?_
  refine lv_dup hx hb dX6_voiceMark_1 rfl ?_
  refine va_get (D := (dC, dI)) (ci := 6) (v := .long d_trace) (C := RX6) (T := TX6) (N := 30) hx hb hts iwX6 hown hK hP 0 rfl rfl 10 (by decide) (hts (.fieldLink RX6 207 "SkyListenersModel" "trace" "J") (by decide +kernel)) (fun _ h9 => h9) rfl dX6_voiceMark_2 ?_
  refine lv_ldc2 (v := 10) hx hb hown (hts (.constantLong RX6 210 (10)) (by decide +kernel)) dX6_voiceMark_5 ?_
  refine lv_ladd hx hb dX6_voiceMark_8 ?_
  refine va_put (D := (dC, dI)) (ci := 6) (v := .long (d_trace + 10)) (ty := .long) (C := RX6) (T := TX6) (N := 30) hx hb hts iwX6 tyX6 tyX6_ok nmX6 hown hK hP hD hS 0 rfl rfl 10 (by decide) (hts (.fieldLink RX6 207 "SkyListenersModel" "trace" "J") (by decide +kernel)) (fun _ h9 => h9) rfl (by decide +kernel) rfl rfl (Nat.le_of_ble_eq_true rfl) dX6_voiceMark_9 (fun H locs hP hD hS => ?_)
  have hP : va_P (dC, dI) vwCl [(p_this, .inr (6, [.int d_dishes, .int d_speakers, .ref p_speaker, .int d_noises, .ref p_noise, .int d_askers, .ref p_asker, .ref p_st, .ref p_images, .ref p_isKept, .long (d_trace + 10), .ref p_text, .int d_texted, .int d_cursor, .int d_start, .int d_token, .int d_number, .long d_word, .int d_isWrong, .int d_saidDishes, .ref p_saidMount, .int d_saidSpeakers, .ref p_saidSpeaker, .int d_saidNoises, .ref p_saidNoise, .int d_saidAskers, .ref p_saidAsker, .ref p_room, .int d_couldBe, .int d_couldHere])), (p_speaker, .inl (cI, 20, .inl d_speaker))] H := hP
  have hD : va_D A [(p_this, .inr (6, [.int d_dishes, .int d_speakers, .ref p_speaker, .int d_noises, .ref p_noise, .int d_askers, .ref p_asker, .ref p_st, .ref p_images, .ref p_isKept, .long (d_trace + 10), .ref p_text, .int d_texted, .int d_cursor, .int d_start, .int d_token, .int d_number, .long d_word, .int d_isWrong, .int d_saidDishes, .ref p_saidMount, .int d_saidSpeakers, .ref p_saidSpeaker, .int d_saidNoises, .ref p_saidNoise, .int d_saidAskers, .ref p_saidAsker, .ref p_room, .int d_couldBe, .int d_couldHere])), (p_speaker, .inl (cI, 20, .inl d_speaker))] := hD
  refine lv_iconst (v := 0) hx hb dX6_voiceMark_12 (by decide) ?_
  refine lv_istore_n (lv' := [(2, .int 0), (0, .ref p_this), (1, .int x1)]) hx hb dX6_voiceMark_13 rfl hl (by decide) rfl (fun ls hl => ?_)
  refine lv_iconst (v := 0) hx hb dX6_voiceMark_14 (by decide) ?_
  refine lv_istore_n (lv' := [(3, .int 0), (2, .int 0), (0, .ref p_this), (1, .int x1)]) hx hb dX6_voiceMark_15 rfl hl (by decide) rfl (fun ls hl => ?_)
  have X52 : ∀ (x2_52 : Int32) (H : Heap) (locs : List Loc), va_P (dC, dI) vwCl [(p_this, .inr (6, [.int d_dishes, .int d_speakers, .ref p_speaker, .int d_noises, .ref p_noise, .int d_askers, .ref p_asker, .ref p_st, .ref p_images, .ref p_isKept, .long (d_trace + 10), .ref p_text, .int d_texted, .int d_cursor, .int d_start, .int d_token, .int d_number, .long d_word, .int d_isWrong, .int d_saidDishes, .ref p_saidMount, .int d_saidSpeakers, .ref p_saidSpeaker, .int d_saidNoises, .ref p_saidNoise, .int d_saidAskers, .ref p_saidAsker, .ref p_room, .int d_couldBe, .int d_couldHere])), (p_speaker, .inl (cI, 20, .inl d_speaker))] H → va_D A [(p_this, .inr (6, [.int d_dishes, .int d_speakers, .ref p_speaker, .int d_noises, .ref p_noise, .int d_askers, .ref p_asker, .ref p_st, .ref p_images, .ref p_isKept, .long (d_trace + 10), .ref p_text, .int d_texted, .int d_cursor, .int d_start, .int d_token, .int d_number, .long d_word, .int d_isWrong, .int d_saidDishes, .ref p_saidMount, .int d_saidSpeakers, .ref p_saidSpeaker, .int d_saidNoises, .ref p_saidNoise, .int d_saidAskers, .ref p_saidAsker, .ref p_room, .int d_couldBe, .int d_couldHere])), (p_speaker, .inl (cI, 20, .inl d_speaker))] → va_S A s.heap H locs → ∀ ls : Array Slot, lv_has ls 4 [(0, .ref p_this), (1, .int x1), (2, .int x2_52)] → f_X6_voiceMark_X52 x1 (d_trace + 10) x2_52 = some out → W p l e ({ frames := 1, cells := 0, slots := 0, locals := 21 } : Room) s m ([.ref p_this, .int x1] : List Value).toArray below meth c H locs 0 0 Q (F0 m 52 ls []) := by
    intro x2_52 H locs hP hD hS ls hl hrun
    rw [f_X6_voiceMark_X52] at hrun
    refine lv_aload_n hx hb dX6_voiceMark_52 rfl (lv_at hl 0 rfl) ?_
    refine lv_iload_n hx hb dX6_voiceMark_53 rfl (lv_at hl 1 rfl) ?_
    have hPc : va_P (dC, dI) vwCl [(p_this, .inr (6, [.int d_dishes, .int d_speakers, .ref p_speaker, .int d_noises, .ref p_noise, .int d_askers, .ref p_asker, .ref p_st, .ref p_images, .ref p_isKept, .long (d_trace + 10), .ref p_text, .int d_texted, .int d_cursor, .int d_start, .int d_token, .int d_number, .long d_word, .int d_isWrong, .int d_saidDishes, .ref p_saidMount, .int d_saidSpeakers, .ref p_saidSpeaker, .int d_saidNoises, .ref p_saidNoise, .int d_saidAskers, .ref p_saidAsker, .ref p_room, .int d_couldBe, .int d_couldHere]))] H := hP.sub [0] rfl
    have hDc : va_D A [(p_this, .inr (6, [.int d_dishes, .int d_speakers, .ref p_speaker, .int d_noises, .ref p_noise, .int d_askers, .ref p_asker, .ref p_st, .ref p_images, .ref p_isKept, .long (d_trace + 10), .ref p_text, .int d_texted, .int d_cursor, .int d_start, .int d_token, .int d_number, .long d_word, .int d_isWrong, .int d_saidDishes, .ref p_saidMount, .int d_saidSpeakers, .ref p_saidSpeaker, .int d_saidNoises, .ref p_saidNoise, .int d_saidAskers, .ref p_saidAsker, .ref p_room, .int d_couldBe, .int d_couldHere]))] := hD.sub [0] (by decide) rfl
    have hFc := va_free (wc := [(p_this, .inr (6, [.int d_dishes, .int d_speakers, .ref p_speaker, .int d_noises, .ref p_noise, .int d_askers, .ref p_asker, .ref p_st, .ref p_images, .ref p_isKept, .long (d_trace + 10), .ref p_text, .int d_texted, .int d_cursor, .int d_start, .int d_token, .int d_number, .long d_word, .int d_isWrong, .int d_saidDishes, .ref p_saidMount, .int d_saidSpeakers, .ref p_saidSpeaker, .int d_saidNoises, .ref p_saidNoise, .int d_saidAskers, .ref p_saidAsker, .ref p_room, .int d_couldBe, .int d_couldHere]))]) hD hS hA [0] rfl
    refine va_calli (va_runV (As := [.int x1]) (rest := []) ⟨hx, hb, hml, hown, hts⟩ (c_X6_noteMark l dC dI cI cZ H.size p_asker p_images p_isKept p_noise p_room p_saidAsker p_saidMount p_saidNoise p_saidSpeaker p_speaker p_st p_text p_this d_dishes d_speakers d_noises d_askers (d_trace + 10) d_texted d_cursor d_start d_token d_number d_word d_isWrong d_saidDishes d_saidSpeakers d_saidNoises d_saidAskers d_couldBe d_couldHere x1 (f_X6_noteMark (d_trace + 10) x1) rfl) (cwV 1 hts gX6_voiceMark_X6_noteMark rfl rfl rfl (by decide +kernel) ⟨Nat.le_of_ble_eq_true rfl, Nat.le_of_ble_eq_true rfl⟩) ⟨fun a U g mk q => ⟨q.1, PC.mv q.2⟩, va_recv hK hP (ci := 6) (q0 := 0) rfl rfl, fun U hU hW => ⟨rfl, PC.of hU hW hPc hK hDc hN⟩⟩ rfl rfl hl.1 rfl (lv_room (Nat.le_of_ble_eq_true rfl)) dX6_voiceMark_54 ⟨Nat.zero_le _, Nat.zero_le _⟩) hS (fun q _ h => hFc q h) hFc (fun r_54 u t H1 locs ht hvm hw hB hz1 hk1 hS => ?_)
    obtain ⟨hP1, hD1⟩ := hB
    try dsimp only at hw
    rw [hw]
    rw [ht] at hP1
    obtain ⟨hP, hD⟩ := va_join (wr := [(p_speaker, .inl (cI, 20, .inl d_speaker))]) (w1 := [(p_this, .inr (6, [.int d_dishes, .int d_speakers, .ref p_speaker, .int d_noises, .ref p_noise, .int d_askers, .ref p_asker, .ref p_st, .ref p_images, .ref p_isKept, .long ((f_X6_noteMark (d_trace + 10) x1).2), .ref p_text, .int d_texted, .int d_cursor, .int d_start, .int d_token, .int d_number, .long d_word, .int d_isWrong, .int d_saidDishes, .ref p_saidMount, .int d_saidSpeakers, .ref p_saidSpeaker, .int d_saidNoises, .ref p_saidNoise, .int d_saidAskers, .ref p_saidAsker, .ref p_room, .int d_couldBe, .int d_couldHere]))]) hP hD [0] [1] rfl rfl (by decide) (by decide) hk1 hFc hP1 hD1
    have hP : va_P (dC, dI) vwCl [(p_this, .inr (6, [.int d_dishes, .int d_speakers, .ref p_speaker, .int d_noises, .ref p_noise, .int d_askers, .ref p_asker, .ref p_st, .ref p_images, .ref p_isKept, .long ((f_X6_noteMark (d_trace + 10) x1).2), .ref p_text, .int d_texted, .int d_cursor, .int d_start, .int d_token, .int d_number, .long d_word, .int d_isWrong, .int d_saidDishes, .ref p_saidMount, .int d_saidSpeakers, .ref p_saidSpeaker, .int d_saidNoises, .ref p_saidNoise, .int d_saidAskers, .ref p_saidAsker, .ref p_room, .int d_couldBe, .int d_couldHere])), (p_speaker, .inl (cI, 20, .inl d_speaker))] H1 := hP.sub [1, 0] rfl
    have hD : va_D A [(p_this, .inr (6, [.int d_dishes, .int d_speakers, .ref p_speaker, .int d_noises, .ref p_noise, .int d_askers, .ref p_asker, .ref p_st, .ref p_images, .ref p_isKept, .long ((f_X6_noteMark (d_trace + 10) x1).2), .ref p_text, .int d_texted, .int d_cursor, .int d_start, .int d_token, .int d_number, .long d_word, .int d_isWrong, .int d_saidDishes, .ref p_saidMount, .int d_saidSpeakers, .ref p_saidSpeaker, .int d_saidNoises, .ref p_saidNoise, .int d_saidAskers, .ref p_saidAsker, .ref p_room, .int d_couldBe, .int d_couldHere])), (p_speaker, .inl (cI, 20, .inl d_speaker))] := hD.sub [1, 0] (by decide) rfl
    clear hPc hDc hFc hk1 hz1 hP1 hD1 ht hvm
    generalize H1 = H at hP hS ⊢
    refine lv_iload_n hx hb dX6_voiceMark_57 rfl (lv_at hl 2 rfl) ?_
    refine lv_iadd hx hb dX6_voiceMark_58 ?_
    have hrun := Option.some.inj hrun
    subst hrun
    rw [hQ]
    exact W.iret (v := ((f_X6_noteMark (d_trace + 10) x1).1) + x2_52) hx hb hr (fun t ht hW => ⟨⟨((f_X6_noteMark (d_trace + 10) x1).1) + x2_52, (), rfl, rfl, by rw [ht]; exact hP, hD⟩, hS.F ht⟩) hS.2.2 dX6_voiceMark_59
  have L16 : ∀ (n9_16 : Nat) (x2_16 : Int32) (x3_16 : Int32) (H : Heap) (locs : List Loc), va_P (dC, dI) vwCl [(p_this, .inr (6, [.int d_dishes, .int d_speakers, .ref p_speaker, .int d_noises, .ref p_noise, .int d_askers, .ref p_asker, .ref p_st, .ref p_images, .ref p_isKept, .long (d_trace + 10), .ref p_text, .int d_texted, .int d_cursor, .int d_start, .int d_token, .int d_number, .long d_word, .int d_isWrong, .int d_saidDishes, .ref p_saidMount, .int d_saidSpeakers, .ref p_saidSpeaker, .int d_saidNoises, .ref p_saidNoise, .int d_saidAskers, .ref p_saidAsker, .ref p_room, .int d_couldBe, .int d_couldHere])), (p_speaker, .inl (cI, 20, .inl d_speaker))] H → va_D A [(p_this, .inr (6, [.int d_dishes, .int d_speakers, .ref p_speaker, .int d_noises, .ref p_noise, .int d_askers, .ref p_asker, .ref p_st, .ref p_images, .ref p_isKept, .long (d_trace + 10), .ref p_text, .int d_texted, .int d_cursor, .int d_start, .int d_token, .int d_number, .long d_word, .int d_isWrong, .int d_saidDishes, .ref p_saidMount, .int d_saidSpeakers, .ref p_saidSpeaker, .int d_saidNoises, .ref p_saidNoise, .int d_saidAskers, .ref p_saidAsker, .ref p_room, .int d_couldBe, .int d_couldHere])), (p_speaker, .inl (cI, 20, .inl d_speaker))] → va_S A s.heap H locs → ∀ ls : Array Slot, lv_has ls 4 [(0, .ref p_this), (1, .int x1), (2, .int x2_16), (3, .int x3_16)] → f_X6_voiceMark_L16 (f_X6_voiceMark_X52 x1 (d_trace + 10)) x1 d_speakers (d_trace + 10) d_speaker n9_16 x2_16 x3_16 = some out → W p l e ({ frames := 1, cells := 0, slots := 0, locals := 21 } : Room) s m ([.ref p_this, .int x1] : List Value).toArray below meth c H locs 0 0 Q (F0 m 16 ls []) := by
    intro n9_16
    induction n9_16 with
    | zero =>
      intro x2_16 x3_16 H locs hP hD hS ls hl hrun
      rw [f_X6_voiceMark_L16] at hrun
      cases hrun
    | succ n9_16 ih16 =>
      intro x2_16 x3_16 H locs hP hD hS ls hl hrun
      rw [f_X6_voiceMark_L16] at hrun
      refine lv_iload_n hx hb dX6_voiceMark_16 rfl (lv_at hl 3 rfl) ?_
      refine lv_aload_n hx hb dX6_voiceMark_17 rfl (lv_at hl 0 rfl) ?_
      refine va_get (D := (dC, dI)) (ci := 6) (v := .int d_speakers) (C := RX6) (T := TX6) (N := 30) hx hb hts iwX6 hown hK hP 0 rfl rfl 1 (by decide) (hts (.fieldLink RX6 133 "SkyListenersModel" "speakers" "I") (by decide +kernel)) (fun _ h9 => h9) rfl dX6_voiceMark_18 ?_
      refine lv_icmp_ge (tgt := 52) hx hb dX6_voiceMark_21 (by decide) (fun c_21 => ?_) (fun c_21 => ?_)
      · rw [if_pos c_21] at hrun
        exact X52 x2_16 H locs hP hD hS ls (lv_sub hl [0, 1, 2] rfl) hrun
      · rw [if_neg c_21] at hrun
        refine lv_iload_n hx hb dX6_voiceMark_24 rfl (lv_at hl 2 rfl) ?_
        refine lv_aload_n hx hb dX6_voiceMark_25 rfl (lv_at hl 0 rfl) ?_
        refine va_get (D := (dC, dI)) (ci := 6) (v := .ref p_speaker) (C := RX6) (T := TX6) (N := 30) hx hb hts iwX6 hown hK hP 0 rfl rfl 2 (by decide) (hts (.fieldLink RX6 7 "SkyListenersModel" "speaker" "[I") (by decide +kernel)) (fun _ h9 => h9) rfl dX6_voiceMark_26 ?_
        refine lv_iconst (v := 4) hx hb dX6_voiceMark_29 (by decide) ?_
        refine lv_iload_n hx hb dX6_voiceMark_30 rfl (lv_at hl 3 rfl) ?_
        refine lv_imul hx hb dX6_voiceMark_31 ?_
        refine lv_iconst (v := 1) hx hb dX6_voiceMark_32 (by decide) ?_
        refine lv_iadd hx hb dX6_voiceMark_33 ?_
        rcases Classical.em (((4 * x3_16) + 1) < 0 ∨ 20 ≤ ((4 * x3_16) + 1).toNatClampNeg) with g_34 | g_34
        · rw [if_pos g_34] at hrun; cases hrun
        rw [if_neg g_34] at hrun
        refine va_iald hx hb hK hP 1 0 rfl rfl g_34 dX6_voiceMark_34 ?_
        refine lv_iload_n hx hb dX6_voiceMark_35 rfl (lv_at hl 1 rfl) ?_
        have J44 : ∀ (t1_44 : Int32) (H : Heap) (locs : List Loc), va_P (dC, dI) vwCl [(p_this, .inr (6, [.int d_dishes, .int d_speakers, .ref p_speaker, .int d_noises, .ref p_noise, .int d_askers, .ref p_asker, .ref p_st, .ref p_images, .ref p_isKept, .long (d_trace + 10), .ref p_text, .int d_texted, .int d_cursor, .int d_start, .int d_token, .int d_number, .long d_word, .int d_isWrong, .int d_saidDishes, .ref p_saidMount, .int d_saidSpeakers, .ref p_saidSpeaker, .int d_saidNoises, .ref p_saidNoise, .int d_saidAskers, .ref p_saidAsker, .ref p_room, .int d_couldBe, .int d_couldHere])), (p_speaker, .inl (cI, 20, .inl d_speaker))] H → va_D A [(p_this, .inr (6, [.int d_dishes, .int d_speakers, .ref p_speaker, .int d_noises, .ref p_noise, .int d_askers, .ref p_asker, .ref p_st, .ref p_images, .ref p_isKept, .long (d_trace + 10), .ref p_text, .int d_texted, .int d_cursor, .int d_start, .int d_token, .int d_number, .long d_word, .int d_isWrong, .int d_saidDishes, .ref p_saidMount, .int d_saidSpeakers, .ref p_saidSpeaker, .int d_saidNoises, .ref p_saidNoise, .int d_saidAskers, .ref p_saidAsker, .ref p_room, .int d_couldBe, .int d_couldHere])), (p_speaker, .inl (cI, 20, .inl d_speaker))] → va_S A s.heap H locs → ∀ ls : Array Slot, lv_has ls 4 [(0, .ref p_this), (1, .int x1), (3, .int x3_16)] → f_X6_voiceMark_J44 (f_X6_voiceMark_L16 (f_X6_voiceMark_X52 x1 (d_trace + 10)) x1 d_speakers (d_trace + 10) d_speaker n9_16) x1 x3_16 x2_16 d_speakers (d_trace + 10) d_speaker t1_44 = some out → W p l e ({ frames := 1, cells := 0, slots := 0, locals := 21 } : Room) s m ([.ref p_this, .int x1] : List Value).toArray below meth c H locs 0 0 Q (F0 m 44 ls [.int t1_44, .int x2_16]) := by
          intro t1_44 H locs hP hD hS ls hl hrun
          rw [f_X6_voiceMark_J44] at hrun
          refine lv_iadd hx hb dX6_voiceMark_44 ?_
          refine lv_istore_n (lv' := [(2, .int (x2_16 + t1_44)), (0, .ref p_this), (1, .int x1), (3, .int x3_16)]) hx hb dX6_voiceMark_45 rfl hl (by decide) rfl (fun ls hl => ?_)
          refine lv_iinc (v := x3_16 + 1) (lv' := [(3, .int (x3_16 + 1)), (2, .int (x2_16 + t1_44)), (0, .ref p_this), (1, .int x1)]) hx hb dX6_voiceMark_46 hl (k := 3) rfl rfl (by decide) rfl (fun ls hl => ?_)
          refine lv_goto (tgt := 16) hx hb dX6_voiceMark_49 (by decide) ?_
          exact ih16 (x2_16 + t1_44) (x3_16 + 1) H locs hP hD hS ls (lv_sub hl [2, 3, 1, 0] rfl) hrun
        refine lv_icmp_ne (tgt := 43) hx hb dX6_voiceMark_36 (by decide) (fun c_36 => ?_) (fun c_36 => ?_)
        · rw [if_neg c_36] at hrun
          refine lv_iconst (v := 0) hx hb dX6_voiceMark_43 (by decide) ?_
          exact J44 0 H locs hP hD hS ls (lv_sub hl [0, 1, 3] rfl) hrun
        · rw [if_pos c_36] at hrun
          refine lv_iconst (v := 1) hx hb dX6_voiceMark_39 (by decide) ?_
          refine lv_goto (tgt := 44) hx hb dX6_voiceMark_40 (by decide) ?_
          exact J44 1 H locs hP hD hS ls (lv_sub hl [0, 1, 3] rfl) hrun
  exact L16 FU 0 0 H locs hP hD hS ls (lv_sub hl [2, 3, 1, 0] rfl) hrun
-- SkyListenersModel.humMark
def f_X6_humMark_X50 (x1 : Int32) (d_trace : Int64) (x2 : Int32) : Option (Int32 × Int64) := (some (((f_X6_noteMark d_trace x1).1) - x2, (f_X6_noteMark d_trace x1).2))
def f_X6_humMark_J42 (K16 : Int32 → Int32 → Option (Int32 × Int64)) (x1 : Int32) (x3 : Int32) (t0 : Int32) (d_noises : Int32) (d_trace : Int64) (d_noise : Nat → Int32) (t1 : Int32) : Option (Int32 × Int64) := (K16 (t0 + t1) (x3 + 1))
def f_X6_humMark_L16 (K50 : Int32 → Option (Int32 × Int64)) (x1 : Int32) (d_noises : Int32) (d_trace : Int64) (d_noise : Nat → Int32) : Nat → Int32 → Int32 → Option (Int32 × Int64)
  | 0, _, _ => none
  | n9 + 1, x2, x3 => (if d_noises ≤ x3 then (K50 x2) else (if (3 * x3) < 0 ∨ 9 ≤ (3 * x3).toNatClampNeg then none else (if (d_noise (3 * x3).toNatClampNeg) = x1 then (f_X6_humMark_J42 (f_X6_humMark_L16 K50 x1 d_noises d_trace d_noise n9) x1 x3 x2 d_noises d_trace d_noise 1) else (f_X6_humMark_J42 (f_X6_humMark_L16 K50 x1 d_noises d_trace d_noise n9) x1 x3 x2 d_noises d_trace d_noise 0))))
def f_X6_humMark (d_noises : Int32) (d_trace : Int64) (d_noise : Nat → Int32) (x1 : Int32) : Option (Int32 × Int64) := (f_X6_humMark_L16 (f_X6_humMark_X50 x1 (d_trace + 100)) x1 d_noises (d_trace + 100) d_noise FU 0 0)
set_option maxHeartbeats 4000000 in
set_option maxRecDepth 100000 in
theorem c_X6_humMark (l : Launch) (dC : Nat → ClassId) (dI : Nat → Nat → Nat) (cI cZ : ClassId) (sz : Nat) (p_asker p_images p_isKept p_noise p_room p_saidAsker p_saidMount p_saidNoise p_saidSpeaker p_speaker p_st p_text p_this : Nat) (d_dishes : Int32) (d_speakers : Int32) (d_noises : Int32) (d_askers : Int32) (d_trace : Int64) (d_texted : Int32) (d_cursor : Int32) (d_start : Int32) (d_token : Int32) (d_number : Int32) (d_word : Int64) (d_isWrong : Int32) (d_saidDishes : Int32) (d_saidSpeakers : Int32) (d_saidNoises : Int32) (d_saidAskers : Int32) (d_couldBe : Int32) (d_couldHere : Int32) (d_noise : Nat → Int32) (x1 : Int32) (out : Int32 × Int64) (hrun : f_X6_humMark d_noises d_trace d_noise x1 = some out) : Met l yX6_humMark wsX6_humMark ({ frames := 1, cells := 0, slots := 0, locals := 21 } : Room) (va_Pc [.ref p_this, .int x1] (PC dC dI cI cZ sz ([(p_this, .inr (6, [.int d_dishes, .int d_speakers, .ref p_speaker, .int d_noises, .ref p_noise, .int d_askers, .ref p_asker, .ref p_st, .ref p_images, .ref p_isKept, .long d_trace, .ref p_text, .int d_texted, .int d_cursor, .int d_start, .int d_token, .int d_number, .long d_word, .int d_isWrong, .int d_saidDishes, .ref p_saidMount, .int d_saidSpeakers, .ref p_saidSpeaker, .int d_saidNoises, .ref p_saidNoise, .int d_saidAskers, .ref p_saidAsker, .ref p_room, .int d_couldBe, .int d_couldHere])), (p_noise, .inl (cI, 9, .inl d_noise))] : va_W))) (va_Qi (fun r (_ : Unit) => r = out.1) (fun _ t => va_P (dC, dI) vwCl [(p_this, .inr (6, [.int d_dishes, .int d_speakers, .ref p_speaker, .int d_noises, .ref p_noise, .int d_askers, .ref p_asker, .ref p_st, .ref p_images, .ref p_isKept, .long out.2, .ref p_text, .int d_texted, .int d_cursor, .int d_start, .int d_token, .int d_number, .long d_word, .int d_isWrong, .int d_saidDishes, .ref p_saidMount, .int d_saidSpeakers, .ref p_saidSpeaker, .int d_saidNoises, .ref p_saidNoise, .int d_saidAskers, .ref p_saidAsker, .ref p_room, .int d_couldBe, .int d_couldHere])), (p_noise, .inl (cI, 9, .inl d_noise))] t.heap ∧ va_D (va_A ([(p_this, .inr (6, [.int d_dishes, .int d_speakers, .ref p_speaker, .int d_noises, .ref p_noise, .int d_askers, .ref p_asker, .ref p_st, .ref p_images, .ref p_isKept, .long d_trace, .ref p_text, .int d_texted, .int d_cursor, .int d_start, .int d_token, .int d_number, .long d_word, .int d_isWrong, .int d_saidDishes, .ref p_saidMount, .int d_saidSpeakers, .ref p_saidSpeaker, .int d_saidNoises, .ref p_saidNoise, .int d_saidAskers, .ref p_saidAsker, .ref p_room, .int d_couldBe, .int d_couldHere])), (p_noise, .inl (cI, 9, .inl d_noise))] : va_W) sz) [(p_this, .inr (6, [.int d_dishes, .int d_speakers, .ref p_speaker, .int d_noises, .ref p_noise, .int d_askers, .ref p_asker, .ref p_st, .ref p_images, .ref p_isKept, .long out.2, .ref p_text, .int d_texted, .int d_cursor, .int d_start, .int d_token, .int d_number, .long d_word, .int d_isWrong, .int d_saidDishes, .ref p_saidMount, .int d_saidSpeakers, .ref p_saidSpeaker, .int d_saidNoises, .ref p_saidNoise, .int d_saidAskers, .ref p_saidAsker, .ref p_room, .int d_couldBe, .int d_couldHere])), (p_noise, .inl (cI, 9, .inl d_noise))]) (va_A ([(p_this, .inr (6, [.int d_dishes, .int d_speakers, .ref p_speaker, .int d_noises, .ref p_noise, .int d_askers, .ref p_asker, .ref p_st, .ref p_images, .ref p_isKept, .long d_trace, .ref p_text, .int d_texted, .int d_cursor, .int d_start, .int d_token, .int d_number, .long d_word, .int d_isWrong, .int d_saidDishes, .ref p_saidMount, .int d_saidSpeakers, .ref p_saidSpeaker, .int d_saidNoises, .ref p_saidNoise, .int d_saidAskers, .ref p_saidAsker, .ref p_room, .int d_couldBe, .int d_couldHere])), (p_noise, .inl (cI, 9, .inl d_noise))] : va_W) sz)) 0 0 (va_A ([(p_this, .inr (6, [.int d_dishes, .int d_speakers, .ref p_speaker, .int d_noises, .ref p_noise, .int d_askers, .ref p_asker, .ref p_st, .ref p_images, .ref p_isKept, .long d_trace, .ref p_text, .int d_texted, .int d_cursor, .int d_start, .int d_token, .int d_number, .long d_word, .int d_isWrong, .int d_saidDishes, .ref p_saidMount, .int d_saidSpeakers, .ref p_saidSpeaker, .int d_saidNoises, .ref p_saidNoise, .int d_saidAskers, .ref p_saidAsker, .ref p_room, .int d_couldBe, .int d_couldHere])), (p_noise, .inl (cI, 9, .inl d_noise))] : va_W) sz) := by
  refine Met.ofW (cc := cX6_humMark) (maxL := 4) (ret := (some .int)) (by decide) rfl ?_
  intro p e s m args below meth c s₁ B hml hv
  obtain ⟨rfl, hsz, hP, hK, hD0, hN⟩ := hv
  have hx := B.exec
  have hb := B.bytes
  have hr := B.returns
  have hts := atoms_spec (ws := wsX6_humMark) B.pre
  have hown : s.vm.findClass RX6 = some m.cls := findClass_of_methodNamed B.named
  have hlocks := B.notSynchronized
  subst hsz
  have hD := hD0.self (sz := s.heap.size)
  generalize hAe : va_A ([(p_this, .inr (6, [.int d_dishes, .int d_speakers, .ref p_speaker, .int d_noises, .ref p_noise, .int d_askers, .ref p_asker, .ref p_st, .ref p_images, .ref p_isKept, .long d_trace, .ref p_text, .int d_texted, .int d_cursor, .int d_start, .int d_token, .int d_number, .long d_word, .int d_isWrong, .int d_saidDishes, .ref p_saidMount, .int d_saidSpeakers, .ref p_saidSpeaker, .int d_saidNoises, .ref p_saidNoise, .int d_saidAskers, .ref p_saidAsker, .ref p_room, .int d_couldBe, .int d_couldHere])), (p_noise, .inl (cI, 9, .inl d_noise))] : va_W) s.heap.size = A at hD ⊢
  have hA : ∀ q : Nat, s.heap.size ≤ q → A q := fun q h => by rw [← hAe]; exact Or.inr h
  have hS : va_S A s.heap s.heap [] := va_S.rf
  refine W_abs (fun Q hQ => ?_)
  have hl := lv_entry ([.ref p_this, .int x1]) (n := 4) (Nat.le_of_ble_eq_true rfl)
  rw [lg_entry_eq]
  generalize (lg_sl ([.ref p_this, .int x1]) ++ List.replicate (4 - (lg_sl ([.ref p_this, .int x1])).length) Slot.unset).toArray = ls at hl ⊢
  have hl : lv_has ls 4 [(0, .ref p_this), (1, .int x1)] := hl
  rw [f_X6_humMark] at hrun
  refine W_start (ws := [(p_this, .inr (6, [.int d_dishes, .int d_speakers, .ref p_speaker, .int d_noises, .ref p_noise, .int d_askers, .ref p_asker, .ref p_st, .ref p_images, .ref p_isKept, .long d_trace, .ref p_text, .int d_texted, .int d_cursor, .int d_start, .int d_token, .int d_number, .long d_word, .int d_isWrong, .int d_saidDishes, .ref p_saidMount, .int d_saidSpeakers, .ref p_saidSpeaker, .int d_saidNoises, .ref p_saidNoise, .int d_saidAskers, .ref p_saidAsker, .ref p_room, .int d_couldBe, .int d_couldHere])), (p_noise, .inl (cI, 9, .inl d_noise))]) hP hS (fun H locs hP hS => ?_)
  have iwX6 : ∀ w ∈ wsX60, w ∈ wsX6_humMark := by decide +kernel
  refine lv_aload_n hx hb dX6_humMark_0 rfl (lv_at hl 0 rfl) ?_
  refine lv_dup hx hb dX6_humMark_1 rfl ?_
  refine va_get (D := (dC, dI)) (ci := 6) (v := .long d_trace) (C := RX6) (T := TX6) (N := 30) hx hb hts iwX6 hown hK hP 0 rfl rfl 10 (by decide) (hts (.fieldLink RX6 207 "SkyListenersModel" "trace" "J") (by decide +kernel)) (fun _ h9 => h9) rfl dX6_humMark_2 ?_
  refine lv_ldc2 (v := 100) hx hb hown (hts (.constantLong RX6 215 (100)) (by decide +kernel)) dX6_humMark_5 ?_
  refine lv_ladd hx hb dX6_humMark_8 ?_
  refine va_put (D := (dC, dI)) (ci := 6) (v := .long (d_trace + 100)) (ty := .long) (C := RX6) (T := TX6) (N := 30) hx hb hts iwX6 tyX6 tyX6_ok nmX6 hown hK hP hD hS 0 rfl rfl 10 (by decide) (hts (.fieldLink RX6 207 "SkyListenersModel" "trace" "J") (by decide +kernel)) (fun _ h9 => h9) rfl (by decide +kernel) rfl rfl (Nat.le_of_ble_eq_true rfl) dX6_humMark_9 (fun H locs hP hD hS => ?_)
  have hP : va_P (dC, dI) vwCl [(p_this, .inr (6, [.int d_dishes, .int d_speakers, .ref p_speaker, .int d_noises, .ref p_noise, .int d_askers, .ref p_asker, .ref p_st, .ref p_images, .ref p_isKept, .long (d_trace + 100), .ref p_text, .int d_texted, .int d_cursor, .int d_start, .int d_token, .int d_number, .long d_word, .int d_isWrong, .int d_saidDishes, .ref p_saidMount, .int d_saidSpeakers, .ref p_saidSpeaker, .int d_saidNoises, .ref p_saidNoise, .int d_saidAskers, .ref p_saidAsker, .ref p_room, .int d_couldBe, .int d_couldHere])), (p_noise, .inl (cI, 9, .inl d_noise))] H := hP
  have hD : va_D A [(p_this, .inr (6, [.int d_dishes, .int d_speakers, .ref p_speaker, .int d_noises, .ref p_noise, .int d_askers, .ref p_asker, .ref p_st, .ref p_images, .ref p_isKept, .long (d_trace + 100), .ref p_text, .int d_texted, .int d_cursor, .int d_start, .int d_token, .int d_number, .long d_word, .int d_isWrong, .int d_saidDishes, .ref p_saidMount, .int d_saidSpeakers, .ref p_saidSpeaker, .int d_saidNoises, .ref p_saidNoise, .int d_saidAskers, .ref p_saidAsker, .ref p_room, .int d_couldBe, .int d_couldHere])), (p_noise, .inl (cI, 9, .inl d_noise))] := hD
  refine lv_iconst (v := 0) hx hb dX6_humMark_12 (by decide) ?_
  refine lv_istore_n (lv' := [(2, .int 0), (0, .ref p_this), (1, .int x1)]) hx hb dX6_humMark_13 rfl hl (by decide) rfl (fun ls hl => ?_)
  refine lv_iconst (v := 0) hx hb dX6_humMark_14 (by decide) ?_
  refine lv_istore_n (lv' := [(3, .int 0), (2, .int 0), (0, .ref p_this), (1, .int x1)]) hx hb dX6_humMark_15 rfl hl (by decide) rfl (fun ls hl => ?_)
  have X50 : ∀ (x2_50 : Int32) (H : Heap) (locs : List Loc), va_P (dC, dI) vwCl [(p_this, .inr (6, [.int d_dishes, .int d_speakers, .ref p_speaker, .int d_noises, .ref p_noise, .int d_askers, .ref p_asker, .ref p_st, .ref p_images, .ref p_isKept, .long (d_trace + 100), .ref p_text, .int d_texted, .int d_cursor, .int d_start, .int d_token, .int d_number, .long d_word, .int d_isWrong, .int d_saidDishes, .ref p_saidMount, .int d_saidSpeakers, .ref p_saidSpeaker, .int d_saidNoises, .ref p_saidNoise, .int d_saidAskers, .ref p_saidAsker, .ref p_room, .int d_couldBe, .int d_couldHere])), (p_noise, .inl (cI, 9, .inl d_noise))] H → va_D A [(p_this, .inr (6, [.int d_dishes, .int d_speakers, .ref p_speaker, .int d_noises, .ref p_noise, .int d_askers, .ref p_asker, .ref p_st, .ref p_images, .ref p_isKept, .long (d_trace + 100), .ref p_text, .int d_texted, .int d_cursor, .int d_start, .int d_token, .int d_number, .long d_word, .int d_isWrong, .int d_saidDishes, .ref p_saidMount, .int d_saidSpeakers, .ref p_saidSpeaker, .int d_saidNoises, .ref p_saidNoise, .int d_saidAskers, .ref p_saidAsker, .ref p_room, .int d_couldBe, .int d_couldHere])), (p_noise, .inl (cI, 9, .inl d_noise))] → va_S A s.heap H locs → ∀ ls : Array Slot, lv_has ls 4 [(0, .ref p_this), (1, .int x1), (2, .int x2_50)] → f_X6_humMark_X50 x1 (d_trace + 100) x2_50 = some out → W p l e ({ frames := 1, cells := 0, slots := 0, locals := 21 } : Room) s m ([.ref p_this, .int x1] : List Value).toArray below meth c H locs 0 0 Q (F0 m 50 ls []) := by
    intro x2_50 H locs hP hD hS ls hl hrun
    rw [f_X6_humMark_X50] at hrun
    refine lv_aload_n hx hb dX6_humMark_50 rfl (lv_at hl 0 rfl) ?_
    refine lv_iload_n hx hb dX6_humMark_51 rfl (lv_at hl 1 rfl) ?_
    have hPc : va_P (dC, dI) vwCl [(p_this, .inr (6, [.int d_dishes, .int d_speakers, .ref p_speaker, .int d_noises, .ref p_noise, .int d_askers, .ref p_asker, .ref p_st, .ref p_images, .ref p_isKept, .long (d_trace + 100), .ref p_text, .int d_texted, .int d_cursor, .int d_start, .int d_token, .int d_number, .long d_word, .int d_isWrong, .int d_saidDishes, .ref p_saidMount, .int d_saidSpeakers, .ref p_saidSpeaker, .int d_saidNoises, .ref p_saidNoise, .int d_saidAskers, .ref p_saidAsker, .ref p_room, .int d_couldBe, .int d_couldHere]))] H := hP.sub [0] rfl
    have hDc : va_D A [(p_this, .inr (6, [.int d_dishes, .int d_speakers, .ref p_speaker, .int d_noises, .ref p_noise, .int d_askers, .ref p_asker, .ref p_st, .ref p_images, .ref p_isKept, .long (d_trace + 100), .ref p_text, .int d_texted, .int d_cursor, .int d_start, .int d_token, .int d_number, .long d_word, .int d_isWrong, .int d_saidDishes, .ref p_saidMount, .int d_saidSpeakers, .ref p_saidSpeaker, .int d_saidNoises, .ref p_saidNoise, .int d_saidAskers, .ref p_saidAsker, .ref p_room, .int d_couldBe, .int d_couldHere]))] := hD.sub [0] (by decide) rfl
    have hFc := va_free (wc := [(p_this, .inr (6, [.int d_dishes, .int d_speakers, .ref p_speaker, .int d_noises, .ref p_noise, .int d_askers, .ref p_asker, .ref p_st, .ref p_images, .ref p_isKept, .long (d_trace + 100), .ref p_text, .int d_texted, .int d_cursor, .int d_start, .int d_token, .int d_number, .long d_word, .int d_isWrong, .int d_saidDishes, .ref p_saidMount, .int d_saidSpeakers, .ref p_saidSpeaker, .int d_saidNoises, .ref p_saidNoise, .int d_saidAskers, .ref p_saidAsker, .ref p_room, .int d_couldBe, .int d_couldHere]))]) hD hS hA [0] rfl
    refine va_calli (va_runV (As := [.int x1]) (rest := []) ⟨hx, hb, hml, hown, hts⟩ (c_X6_noteMark l dC dI cI cZ H.size p_asker p_images p_isKept p_noise p_room p_saidAsker p_saidMount p_saidNoise p_saidSpeaker p_speaker p_st p_text p_this d_dishes d_speakers d_noises d_askers (d_trace + 100) d_texted d_cursor d_start d_token d_number d_word d_isWrong d_saidDishes d_saidSpeakers d_saidNoises d_saidAskers d_couldBe d_couldHere x1 (f_X6_noteMark (d_trace + 100) x1) rfl) (cwV 1 hts gX6_humMark_X6_noteMark rfl rfl rfl (by decide +kernel) ⟨Nat.le_of_ble_eq_true rfl, Nat.le_of_ble_eq_true rfl⟩) ⟨fun a U g mk q => ⟨q.1, PC.mv q.2⟩, va_recv hK hP (ci := 6) (q0 := 0) rfl rfl, fun U hU hW => ⟨rfl, PC.of hU hW hPc hK hDc hN⟩⟩ rfl rfl hl.1 rfl (lv_room (Nat.le_of_ble_eq_true rfl)) dX6_humMark_52 ⟨Nat.zero_le _, Nat.zero_le _⟩) hS (fun q _ h => hFc q h) hFc (fun r_52 u t H1 locs ht hvm hw hB hz1 hk1 hS => ?_)
    obtain ⟨hP1, hD1⟩ := hB
    try dsimp only at hw
    rw [hw]
    rw [ht] at hP1
    obtain ⟨hP, hD⟩ := va_join (wr := [(p_noise, .inl (cI, 9, .inl d_noise))]) (w1 := [(p_this, .inr (6, [.int d_dishes, .int d_speakers, .ref p_speaker, .int d_noises, .ref p_noise, .int d_askers, .ref p_asker, .ref p_st, .ref p_images, .ref p_isKept, .long ((f_X6_noteMark (d_trace + 100) x1).2), .ref p_text, .int d_texted, .int d_cursor, .int d_start, .int d_token, .int d_number, .long d_word, .int d_isWrong, .int d_saidDishes, .ref p_saidMount, .int d_saidSpeakers, .ref p_saidSpeaker, .int d_saidNoises, .ref p_saidNoise, .int d_saidAskers, .ref p_saidAsker, .ref p_room, .int d_couldBe, .int d_couldHere]))]) hP hD [0] [1] rfl rfl (by decide) (by decide) hk1 hFc hP1 hD1
    have hP : va_P (dC, dI) vwCl [(p_this, .inr (6, [.int d_dishes, .int d_speakers, .ref p_speaker, .int d_noises, .ref p_noise, .int d_askers, .ref p_asker, .ref p_st, .ref p_images, .ref p_isKept, .long ((f_X6_noteMark (d_trace + 100) x1).2), .ref p_text, .int d_texted, .int d_cursor, .int d_start, .int d_token, .int d_number, .long d_word, .int d_isWrong, .int d_saidDishes, .ref p_saidMount, .int d_saidSpeakers, .ref p_saidSpeaker, .int d_saidNoises, .ref p_saidNoise, .int d_saidAskers, .ref p_saidAsker, .ref p_room, .int d_couldBe, .int d_couldHere])), (p_noise, .inl (cI, 9, .inl d_noise))] H1 := hP.sub [1, 0] rfl
    have hD : va_D A [(p_this, .inr (6, [.int d_dishes, .int d_speakers, .ref p_speaker, .int d_noises, .ref p_noise, .int d_askers, .ref p_asker, .ref p_st, .ref p_images, .ref p_isKept, .long ((f_X6_noteMark (d_trace + 100) x1).2), .ref p_text, .int d_texted, .int d_cursor, .int d_start, .int d_token, .int d_number, .long d_word, .int d_isWrong, .int d_saidDishes, .ref p_saidMount, .int d_saidSpeakers, .ref p_saidSpeaker, .int d_saidNoises, .ref p_saidNoise, .int d_saidAskers, .ref p_saidAsker, .ref p_room, .int d_couldBe, .int d_couldHere])), (p_noise, .inl (cI, 9, .inl d_noise))] := hD.sub [1, 0] (by decide) rfl
    clear hPc hDc hFc hk1 hz1 hP1 hD1 ht hvm
    generalize H1 = H at hP hS ⊢
    refine lv_iload_n hx hb dX6_humMark_55 rfl (lv_at hl 2 rfl) ?_
    refine lv_isub hx hb dX6_humMark_56 ?_
    have hrun := Option.some.inj hrun
    subst hrun
    rw [hQ]
    exact W.iret (v := ((f_X6_noteMark (d_trace + 100) x1).1) - x2_50) hx hb hr (fun t ht hW => ⟨⟨((f_X6_noteMark (d_trace + 100) x1).1) - x2_50, (), rfl, rfl, by rw [ht]; exact hP, hD⟩, hS.F ht⟩) hS.2.2 dX6_humMark_57
  have L16 : ∀ (n9_16 : Nat) (x2_16 : Int32) (x3_16 : Int32) (H : Heap) (locs : List Loc), va_P (dC, dI) vwCl [(p_this, .inr (6, [.int d_dishes, .int d_speakers, .ref p_speaker, .int d_noises, .ref p_noise, .int d_askers, .ref p_asker, .ref p_st, .ref p_images, .ref p_isKept, .long (d_trace + 100), .ref p_text, .int d_texted, .int d_cursor, .int d_start, .int d_token, .int d_number, .long d_word, .int d_isWrong, .int d_saidDishes, .ref p_saidMount, .int d_saidSpeakers, .ref p_saidSpeaker, .int d_saidNoises, .ref p_saidNoise, .int d_saidAskers, .ref p_saidAsker, .ref p_room, .int d_couldBe, .int d_couldHere])), (p_noise, .inl (cI, 9, .inl d_noise))] H → va_D A [(p_this, .inr (6, [.int d_dishes, .int d_speakers, .ref p_speaker, .int d_noises, .ref p_noise, .int d_askers, .ref p_asker, .ref p_st, .ref p_images, .ref p_isKept, .long (d_trace + 100), .ref p_text, .int d_texted, .int d_cursor, .int d_start, .int d_token, .int d_number, .long d_word, .int d_isWrong, .int d_saidDishes, .ref p_saidMount, .int d_saidSpeakers, .ref p_saidSpeaker, .int d_saidNoises, .ref p_saidNoise, .int d_saidAskers, .ref p_saidAsker, .ref p_room, .int d_couldBe, .int d_couldHere])), (p_noise, .inl (cI, 9, .inl d_noise))] → va_S A s.heap H locs → ∀ ls : Array Slot, lv_has ls 4 [(0, .ref p_this), (1, .int x1), (2, .int x2_16), (3, .int x3_16)] → f_X6_humMark_L16 (f_X6_humMark_X50 x1 (d_trace + 100)) x1 d_noises (d_trace + 100) d_noise n9_16 x2_16 x3_16 = some out → W p l e ({ frames := 1, cells := 0, slots := 0, locals := 21 } : Room) s m ([.ref p_this, .int x1] : List Value).toArray below meth c H locs 0 0 Q (F0 m 16 ls []) := by
    intro n9_16
    induction n9_16 with
    | zero =>
      intro x2_16 x3_16 H locs hP hD hS ls hl hrun
      rw [f_X6_humMark_L16] at hrun
      cases hrun
    | succ n9_16 ih16 =>
      intro x2_16 x3_16 H locs hP hD hS ls hl hrun
      rw [f_X6_humMark_L16] at hrun
      refine lv_iload_n hx hb dX6_humMark_16 rfl (lv_at hl 3 rfl) ?_
      refine lv_aload_n hx hb dX6_humMark_17 rfl (lv_at hl 0 rfl) ?_
      refine va_get (D := (dC, dI)) (ci := 6) (v := .int d_noises) (C := RX6) (T := TX6) (N := 30) hx hb hts iwX6 hown hK hP 0 rfl rfl 3 (by decide) (hts (.fieldLink RX6 136 "SkyListenersModel" "noises" "I") (by decide +kernel)) (fun _ h9 => h9) rfl dX6_humMark_18 ?_
      refine lv_icmp_ge (tgt := 50) hx hb dX6_humMark_21 (by decide) (fun c_21 => ?_) (fun c_21 => ?_)
      · rw [if_pos c_21] at hrun
        exact X50 x2_16 H locs hP hD hS ls (lv_sub hl [0, 1, 2] rfl) hrun
      · rw [if_neg c_21] at hrun
        refine lv_iload_n hx hb dX6_humMark_24 rfl (lv_at hl 2 rfl) ?_
        refine lv_aload_n hx hb dX6_humMark_25 rfl (lv_at hl 0 rfl) ?_
        refine va_get (D := (dC, dI)) (ci := 6) (v := .ref p_noise) (C := RX6) (T := TX6) (N := 30) hx hb hts iwX6 hown hK hP 0 rfl rfl 4 (by decide) (hts (.fieldLink RX6 13 "SkyListenersModel" "noise" "[I") (by decide +kernel)) (fun _ h9 => h9) rfl dX6_humMark_26 ?_
        refine lv_iconst (v := 3) hx hb dX6_humMark_29 (by decide) ?_
        refine lv_iload_n hx hb dX6_humMark_30 rfl (lv_at hl 3 rfl) ?_
        refine lv_imul hx hb dX6_humMark_31 ?_
        rcases Classical.em ((3 * x3_16) < 0 ∨ 9 ≤ (3 * x3_16).toNatClampNeg) with g_32 | g_32
        · rw [if_pos g_32] at hrun; cases hrun
        rw [if_neg g_32] at hrun
        refine va_iald hx hb hK hP 1 0 rfl rfl g_32 dX6_humMark_32 ?_
        refine lv_iload_n hx hb dX6_humMark_33 rfl (lv_at hl 1 rfl) ?_
        have J42 : ∀ (t1_42 : Int32) (H : Heap) (locs : List Loc), va_P (dC, dI) vwCl [(p_this, .inr (6, [.int d_dishes, .int d_speakers, .ref p_speaker, .int d_noises, .ref p_noise, .int d_askers, .ref p_asker, .ref p_st, .ref p_images, .ref p_isKept, .long (d_trace + 100), .ref p_text, .int d_texted, .int d_cursor, .int d_start, .int d_token, .int d_number, .long d_word, .int d_isWrong, .int d_saidDishes, .ref p_saidMount, .int d_saidSpeakers, .ref p_saidSpeaker, .int d_saidNoises, .ref p_saidNoise, .int d_saidAskers, .ref p_saidAsker, .ref p_room, .int d_couldBe, .int d_couldHere])), (p_noise, .inl (cI, 9, .inl d_noise))] H → va_D A [(p_this, .inr (6, [.int d_dishes, .int d_speakers, .ref p_speaker, .int d_noises, .ref p_noise, .int d_askers, .ref p_asker, .ref p_st, .ref p_images, .ref p_isKept, .long (d_trace + 100), .ref p_text, .int d_texted, .int d_cursor, .int d_start, .int d_token, .int d_number, .long d_word, .int d_isWrong, .int d_saidDishes, .ref p_saidMount, .int d_saidSpeakers, .ref p_saidSpeaker, .int d_saidNoises, .ref p_saidNoise, .int d_saidAskers, .ref p_saidAsker, .ref p_room, .int d_couldBe, .int d_couldHere])), (p_noise, .inl (cI, 9, .inl d_noise))] → va_S A s.heap H locs → ∀ ls : Array Slot, lv_has ls 4 [(0, .ref p_this), (1, .int x1), (3, .int x3_16)] → f_X6_humMark_J42 (f_X6_humMark_L16 (f_X6_humMark_X50 x1 (d_trace + 100)) x1 d_noises (d_trace + 100) d_noise n9_16) x1 x3_16 x2_16 d_noises (d_trace + 100) d_noise t1_42 = some out → W p l e ({ frames := 1, cells := 0, slots := 0, locals := 21 } : Room) s m ([.ref p_this, .int x1] : List Value).toArray below meth c H locs 0 0 Q (F0 m 42 ls [.int t1_42, .int x2_16]) := by
          intro t1_42 H locs hP hD hS ls hl hrun
          rw [f_X6_humMark_J42] at hrun
          refine lv_iadd hx hb dX6_humMark_42 ?_
          refine lv_istore_n (lv' := [(2, .int (x2_16 + t1_42)), (0, .ref p_this), (1, .int x1), (3, .int x3_16)]) hx hb dX6_humMark_43 rfl hl (by decide) rfl (fun ls hl => ?_)
          refine lv_iinc (v := x3_16 + 1) (lv' := [(3, .int (x3_16 + 1)), (2, .int (x2_16 + t1_42)), (0, .ref p_this), (1, .int x1)]) hx hb dX6_humMark_44 hl (k := 3) rfl rfl (by decide) rfl (fun ls hl => ?_)
          refine lv_goto (tgt := 16) hx hb dX6_humMark_47 (by decide) ?_
          exact ih16 (x2_16 + t1_42) (x3_16 + 1) H locs hP hD hS ls (lv_sub hl [2, 3, 1, 0] rfl) hrun
        refine lv_icmp_ne (tgt := 41) hx hb dX6_humMark_34 (by decide) (fun c_34 => ?_) (fun c_34 => ?_)
        · rw [if_neg c_34] at hrun
          refine lv_iconst (v := 0) hx hb dX6_humMark_41 (by decide) ?_
          exact J42 0 H locs hP hD hS ls (lv_sub hl [0, 1, 3] rfl) hrun
        · rw [if_pos c_34] at hrun
          refine lv_iconst (v := 1) hx hb dX6_humMark_37 (by decide) ?_
          refine lv_goto (tgt := 42) hx hb dX6_humMark_38 (by decide) ?_
          exact J42 1 H locs hP hD hS ls (lv_sub hl [0, 1, 3] rfl) hrun
  exact L16 FU 0 0 H locs hP hD hS ls (lv_sub hl [2, 3, 1, 0] rfl) hrun
