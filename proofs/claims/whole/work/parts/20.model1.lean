-- SkyListenersModel.in
def f_X6_in (x0 : Int32) (x1 : Int32) (x2 : Int32) : Int32 := (if x0 < x1 then (0) else (if x2 < x0 then (0) else (1)))
theorem b_X6_in (x0 : Int32) (x1 : Int32) (x2 : Int32) : f_X6_in x0 x1 x2 = 0 ∨ f_X6_in x0 x1 x2 = 1 := by unfold f_X6_in; first | (repeat' split) <;> first | exact Or.inl rfl | exact Or.inr rfl
set_option maxHeartbeats 4000000 in
set_option maxRecDepth 100000 in
theorem c_X6_in (l : Launch) (dC : Nat → ClassId) (dI : Nat → Nat → Nat) (cI cZ : ClassId) (sz : Nat) (x0 : Int32) (x1 : Int32) (x2 : Int32) (out : Int32) (hrun : f_X6_in x0 x1 x2 = out) : Met l yX6_in wsX6_in ({ frames := 0, cells := 0, slots := 0, locals := 0 } : Room) (va_Pc [.int x0, .int x1, .int x2] (PC dC dI cI cZ sz ([] : va_W))) (va_Qi (fun r (_ : Unit) => r = out) (fun _ t => va_P (dC, dI) vwCl [] t.heap ∧ va_D (va_A ([] : va_W) sz) []) (va_A ([] : va_W) sz)) 0 0 (va_A ([] : va_W) sz) := by
  refine Met.ofW (cc := cX6_in) (maxL := 3) (ret := (some .boolean)) (by decide) rfl ?_
  intro p e s m args below meth c s₁ B hml hv
  obtain ⟨rfl, hsz, hP, hK, hD0, hN⟩ := hv
  have hx := B.exec
  have hb := B.bytes
  have hr := B.returns
  have hts := atoms_spec (ws := wsX6_in) B.pre
  have hown : s.vm.findClass RX6 = some m.cls := findClass_of_methodNamed B.named
  have hlocks := B.notSynchronized
  subst hsz
  have hD := hD0.self (sz := s.heap.size)
  generalize hAe : va_A ([] : va_W) s.heap.size = A at hD ⊢
  have hA : ∀ q : Nat, s.heap.size ≤ q → A q := fun q h => by rw [← hAe]; exact Or.inr h
  have hS : va_S A s.heap s.heap [] := va_S.rf
  refine W_abs (fun Q hQ => ?_)
  have hl := lv_entry ([.int x0, .int x1, .int x2]) (n := 3) (Nat.le_of_ble_eq_true rfl)
  rw [lg_entry_eq]
  generalize (lg_sl ([.int x0, .int x1, .int x2]) ++ List.replicate (3 - (lg_sl ([.int x0, .int x1, .int x2])).length) Slot.unset).toArray = ls at hl ⊢
  have hl : lv_has ls 3 [(0, .int x0), (1, .int x1), (2, .int x2)] := hl
  rw [f_X6_in] at hrun
  refine W_start (ws := []) hP hS (fun H locs hP hS => ?_)
  refine lv_iload_n hx hb dX6_in_0 rfl (lv_at hl 0 rfl) ?_
  refine lv_iload_n hx hb dX6_in_1 rfl (lv_at hl 1 rfl) ?_
  refine lv_icmp_lt (tgt := 14) hx hb dX6_in_2 (by decide) (fun c_2 => ?_) (fun c_2 => ?_)
  · rw [if_pos c_2] at hrun
    refine lv_iconst (v := 0) hx hb dX6_in_14 (by decide) ?_
    have hrun := hrun
    subst hrun
    rw [hQ]
    exact W.zret (v := 0) (ty := .boolean) hx hb hr rfl (fun t ht hW => ⟨⟨0, (), rfl, rfl, by rw [ht]; exact hP, hD⟩, hS.F ht⟩) hS.2.2 dX6_in_15
  · rw [if_neg c_2] at hrun
    refine lv_iload_n hx hb dX6_in_5 rfl (lv_at hl 0 rfl) ?_
    refine lv_iload_n hx hb dX6_in_6 rfl (lv_at hl 2 rfl) ?_
    refine lv_icmp_gt (tgt := 14) hx hb dX6_in_7 (by decide) (fun c_7 => ?_) (fun c_7 => ?_)
    · rw [if_pos c_7] at hrun
      refine lv_iconst (v := 0) hx hb dX6_in_14 (by decide) ?_
      have hrun := hrun
      subst hrun
      rw [hQ]
      exact W.zret (v := 0) (ty := .boolean) hx hb hr rfl (fun t ht hW => ⟨⟨0, (), rfl, rfl, by rw [ht]; exact hP, hD⟩, hS.F ht⟩) hS.2.2 dX6_in_15
    · rw [if_neg c_7] at hrun
      refine lv_iconst (v := 1) hx hb dX6_in_10 (by decide) ?_
      refine lv_goto (tgt := 15) hx hb dX6_in_11 (by decide) ?_
      have hrun := hrun
      subst hrun
      rw [hQ]
      exact W.zret (v := 1) (ty := .boolean) hx hb hr rfl (fun t ht hW => ⟨⟨1, (), rfl, rfl, by rw [ht]; exact hP, hD⟩, hS.F ht⟩) hS.2.2 dX6_in_15
-- SkyListenersModel.has
def f_X6_has (x0 : Int32) (x1 : Int32) : Int32 := (if ((x0 >>> (x1 &&& 31)) &&& 1) = 1 then (1) else (0))
theorem b_X6_has (x0 : Int32) (x1 : Int32) : f_X6_has x0 x1 = 0 ∨ f_X6_has x0 x1 = 1 := by unfold f_X6_has; first | (repeat' split) <;> first | exact Or.inl rfl | exact Or.inr rfl
set_option maxHeartbeats 4000000 in
set_option maxRecDepth 100000 in
theorem c_X6_has (l : Launch) (dC : Nat → ClassId) (dI : Nat → Nat → Nat) (cI cZ : ClassId) (sz : Nat) (x0 : Int32) (x1 : Int32) (out : Int32) (hrun : f_X6_has x0 x1 = out) : Met l yX6_has wsX6_has ({ frames := 0, cells := 0, slots := 0, locals := 0 } : Room) (va_Pc [.int x0, .int x1] (PC dC dI cI cZ sz ([] : va_W))) (va_Qi (fun r (_ : Unit) => r = out) (fun _ t => va_P (dC, dI) vwCl [] t.heap ∧ va_D (va_A ([] : va_W) sz) []) (va_A ([] : va_W) sz)) 0 0 (va_A ([] : va_W) sz) := by
  refine Met.ofW (cc := cX6_has) (maxL := 2) (ret := (some .boolean)) (by decide) rfl ?_
  intro p e s m args below meth c s₁ B hml hv
  obtain ⟨rfl, hsz, hP, hK, hD0, hN⟩ := hv
  have hx := B.exec
  have hb := B.bytes
  have hr := B.returns
  have hts := atoms_spec (ws := wsX6_has) B.pre
  have hown : s.vm.findClass RX6 = some m.cls := findClass_of_methodNamed B.named
  have hlocks := B.notSynchronized
  subst hsz
  have hD := hD0.self (sz := s.heap.size)
  generalize hAe : va_A ([] : va_W) s.heap.size = A at hD ⊢
  have hA : ∀ q : Nat, s.heap.size ≤ q → A q := fun q h => by rw [← hAe]; exact Or.inr h
  have hS : va_S A s.heap s.heap [] := va_S.rf
  refine W_abs (fun Q hQ => ?_)
  have hl := lv_entry ([.int x0, .int x1]) (n := 2) (Nat.le_of_ble_eq_true rfl)
  rw [lg_entry_eq]
  generalize (lg_sl ([.int x0, .int x1]) ++ List.replicate (2 - (lg_sl ([.int x0, .int x1])).length) Slot.unset).toArray = ls at hl ⊢
  have hl : lv_has ls 2 [(0, .int x0), (1, .int x1)] := hl
  rw [f_X6_has] at hrun
  refine W_start (ws := []) hP hS (fun H locs hP hS => ?_)
  refine lv_iload_n hx hb dX6_has_0 rfl (lv_at hl 0 rfl) ?_
  refine lv_iload_n hx hb dX6_has_1 rfl (lv_at hl 1 rfl) ?_
  refine lv_ishr hx hb dX6_has_2 ?_
  refine lv_iconst (v := 1) hx hb dX6_has_3 (by decide) ?_
  refine lv_iand hx hb dX6_has_4 ?_
  refine lv_iconst (v := 1) hx hb dX6_has_5 (by decide) ?_
  refine lv_icmp_ne (tgt := 13) hx hb dX6_has_6 (by decide) (fun c_6 => ?_) (fun c_6 => ?_)
  · rw [if_neg c_6] at hrun
    refine lv_iconst (v := 0) hx hb dX6_has_13 (by decide) ?_
    have hrun := hrun
    subst hrun
    rw [hQ]
    exact W.zret (v := 0) (ty := .boolean) hx hb hr rfl (fun t ht hW => ⟨⟨0, (), rfl, rfl, by rw [ht]; exact hP, hD⟩, hS.F ht⟩) hS.2.2 dX6_has_14
  · rw [if_pos c_6] at hrun
    refine lv_iconst (v := 1) hx hb dX6_has_9 (by decide) ?_
    refine lv_goto (tgt := 14) hx hb dX6_has_10 (by decide) ?_
    have hrun := hrun
    subst hrun
    rw [hQ]
    exact W.zret (v := 1) (ty := .boolean) hx hb hr rfl (fun t ht hW => ⟨⟨1, (), rfl, rfl, by rw [ht]; exact hP, hD⟩, hS.F ht⟩) hS.2.2 dX6_has_14
-- SkyListenersModel.bits
def f_X6_bits_L4 : Nat → Int32 → Int32 → Option (Int32)
  | 0, _, _ => none
  | n9 + 1, x1, x2 => (if x2 ≤ 0 then (some x1) else (f_X6_bits_L4   n9 (x1 + 1) (x2 &&& (x2 - 1))))
def f_X6_bits (x0 : Int32) : Option (Int32) := (f_X6_bits_L4 FU 0 x0)
set_option maxHeartbeats 4000000 in
set_option maxRecDepth 100000 in
theorem c_X6_bits (l : Launch) (dC : Nat → ClassId) (dI : Nat → Nat → Nat) (cI cZ : ClassId) (sz : Nat) (x0 : Int32) (out : Int32) (hrun : f_X6_bits x0 = some out) : Met l yX6_bits wsX6_bits ({ frames := 0, cells := 0, slots := 0, locals := 0 } : Room) (va_Pc [.int x0] (PC dC dI cI cZ sz ([] : va_W))) (va_Qi (fun r (_ : Unit) => r = out) (fun _ t => va_P (dC, dI) vwCl [] t.heap ∧ va_D (va_A ([] : va_W) sz) []) (va_A ([] : va_W) sz)) 0 0 (va_A ([] : va_W) sz) := by
  refine Met.ofW (cc := cX6_bits) (maxL := 3) (ret := (some .int)) (by decide) rfl ?_
  intro p e s m args below meth c s₁ B hml hv
  obtain ⟨rfl, hsz, hP, hK, hD0, hN⟩ := hv
  have hx := B.exec
  have hb := B.bytes
  have hr := B.returns
  have hts := atoms_spec (ws := wsX6_bits) B.pre
  have hown : s.vm.findClass RX6 = some m.cls := findClass_of_methodNamed B.named
  have hlocks := B.notSynchronized
  subst hsz
  have hD := hD0.self (sz := s.heap.size)
  generalize hAe : va_A ([] : va_W) s.heap.size = A at hD ⊢
  have hA : ∀ q : Nat, s.heap.size ≤ q → A q := fun q h => by rw [← hAe]; exact Or.inr h
  have hS : va_S A s.heap s.heap [] := va_S.rf
  refine W_abs (fun Q hQ => ?_)
  have hl := lv_entry ([.int x0]) (n := 3) (Nat.le_of_ble_eq_true rfl)
  rw [lg_entry_eq]
  generalize (lg_sl ([.int x0]) ++ List.replicate (3 - (lg_sl ([.int x0])).length) Slot.unset).toArray = ls at hl ⊢
  have hl : lv_has ls 3 [(0, .int x0)] := hl
  rw [f_X6_bits] at hrun
  refine W_start (ws := []) hP hS (fun H locs hP hS => ?_)
  refine lv_iconst (v := 0) hx hb dX6_bits_0 (by decide) ?_
  refine lv_istore_n (lv' := [(1, .int 0), (0, .int x0)]) hx hb dX6_bits_1 rfl hl (by decide) rfl (fun ls hl => ?_)
  refine lv_iload_n hx hb dX6_bits_2 rfl (lv_at hl 1 rfl) ?_
  refine lv_istore_n (lv' := [(2, .int x0), (1, .int 0), (0, .int x0)]) hx hb dX6_bits_3 rfl hl (by decide) rfl (fun ls hl => ?_)
  have L4 : ∀ (n9_4 : Nat) (x1_4 : Int32) (x2_4 : Int32) (H : Heap) (locs : List Loc), va_P (dC, dI) vwCl [] H → va_D A [] → va_S A s.heap H locs → ∀ ls : Array Slot, lv_has ls 3 [(1, .int x1_4), (2, .int x2_4)] → f_X6_bits_L4 n9_4 x1_4 x2_4 = some out → W p l e ({ frames := 0, cells := 0, slots := 0, locals := 0 } : Room) s m ([.int x0] : List Value).toArray below meth c H locs 0 0 Q (F0 m 4 ls []) := by
    intro n9_4
    induction n9_4 with
    | zero =>
      intro x1_4 x2_4 H locs hP hD hS ls hl hrun
      rw [f_X6_bits_L4] at hrun
      cases hrun
    | succ n9_4 ih4 =>
      intro x1_4 x2_4 H locs hP hD hS ls hl hrun
      rw [f_X6_bits_L4] at hrun
      refine lv_iload_n hx hb dX6_bits_4 rfl (lv_at hl 1 rfl) ?_
      refine lv_if_le (tgt := 20) hx hb dX6_bits_5 (by decide) (fun c_5 => ?_) (fun c_5 => ?_)
      · rw [if_pos c_5] at hrun
        refine lv_iload_n hx hb dX6_bits_20 rfl (lv_at hl 0 rfl) ?_
        have hrun := Option.some.inj hrun
        subst hrun
        rw [hQ]
        exact W.iret (v := x1_4) hx hb hr (fun t ht hW => ⟨⟨x1_4, (), rfl, rfl, by rw [ht]; exact hP, hD⟩, hS.F ht⟩) hS.2.2 dX6_bits_21
      · rw [if_neg c_5] at hrun
        refine lv_iinc (v := x1_4 + 1) (lv' := [(1, .int (x1_4 + 1)), (2, .int x2_4)]) hx hb dX6_bits_8 hl (k := 0) rfl rfl (by decide) rfl (fun ls hl => ?_)
        refine lv_iload_n hx hb dX6_bits_11 rfl (lv_at hl 1 rfl) ?_
        refine lv_iload_n hx hb dX6_bits_12 rfl (lv_at hl 1 rfl) ?_
        refine lv_iconst (v := 1) hx hb dX6_bits_13 (by decide) ?_
        refine lv_isub hx hb dX6_bits_14 ?_
        refine lv_iand hx hb dX6_bits_15 ?_
        refine lv_istore_n (lv' := [(2, .int (x2_4 &&& (x2_4 - 1))), (1, .int (x1_4 + 1))]) hx hb dX6_bits_16 rfl hl (by decide) rfl (fun ls hl => ?_)
        refine lv_goto (tgt := 4) hx hb dX6_bits_17 (by decide) ?_
        exact ih4 (x1_4 + 1) (x2_4 &&& (x2_4 - 1)) H locs hP hD hS ls (lv_sub hl [1, 0] rfl) hrun
  exact L4 FU 0 x0 H locs hP hD hS ls (lv_sub hl [1, 0] rfl) hrun
-- SkyListenersModel.isDish
def f_X6_isDish (d_dishes : Int32) (x1 : Int32) : Int32 := ((f_X6_in x1 0 (d_dishes - 1)))
theorem b_X6_isDish (d_dishes : Int32) (x1 : Int32) : f_X6_isDish d_dishes x1 = 0 ∨ f_X6_isDish d_dishes x1 = 1 := by unfold f_X6_isDish; first | exact Or.inl rfl | exact Or.inr rfl | exact b_X6_in ..
set_option maxHeartbeats 4000000 in
set_option maxRecDepth 100000 in
theorem c_X6_isDish (l : Launch) (dC : Nat → ClassId) (dI : Nat → Nat → Nat) (cI cZ : ClassId) (sz : Nat) (p_asker p_images p_isKept p_noise p_room p_saidAsker p_saidMount p_saidNoise p_saidSpeaker p_speaker p_st p_text p_this : Nat) (d_dishes : Int32) (d_speakers : Int32) (d_noises : Int32) (d_askers : Int32) (d_trace : Int64) (d_texted : Int32) (d_cursor : Int32) (d_start : Int32) (d_token : Int32) (d_number : Int32) (d_word : Int64) (d_isWrong : Int32) (d_saidDishes : Int32) (d_saidSpeakers : Int32) (d_saidNoises : Int32) (d_saidAskers : Int32) (d_couldBe : Int32) (d_couldHere : Int32) (x1 : Int32) (out : Int32) (hrun : f_X6_isDish d_dishes x1 = out) : Met l yX6_isDish wsX6_isDish ({ frames := 1, cells := 0, slots := 0, locals := 22 } : Room) (va_Pc [.ref p_this, .int x1] (PC dC dI cI cZ sz ([(p_this, .inr (6, [.int d_dishes, .int d_speakers, .ref p_speaker, .int d_noises, .ref p_noise, .int d_askers, .ref p_asker, .ref p_st, .ref p_images, .ref p_isKept, .long d_trace, .ref p_text, .int d_texted, .int d_cursor, .int d_start, .int d_token, .int d_number, .long d_word, .int d_isWrong, .int d_saidDishes, .ref p_saidMount, .int d_saidSpeakers, .ref p_saidSpeaker, .int d_saidNoises, .ref p_saidNoise, .int d_saidAskers, .ref p_saidAsker, .ref p_room, .int d_couldBe, .int d_couldHere]))] : va_W))) (va_Qi (fun r (_ : Unit) => r = out) (fun _ t => va_P (dC, dI) vwCl [(p_this, .inr (6, [.int d_dishes, .int d_speakers, .ref p_speaker, .int d_noises, .ref p_noise, .int d_askers, .ref p_asker, .ref p_st, .ref p_images, .ref p_isKept, .long d_trace, .ref p_text, .int d_texted, .int d_cursor, .int d_start, .int d_token, .int d_number, .long d_word, .int d_isWrong, .int d_saidDishes, .ref p_saidMount, .int d_saidSpeakers, .ref p_saidSpeaker, .int d_saidNoises, .ref p_saidNoise, .int d_saidAskers, .ref p_saidAsker, .ref p_room, .int d_couldBe, .int d_couldHere]))] t.heap ∧ va_D (va_A ([(p_this, .inr (6, [.int d_dishes, .int d_speakers, .ref p_speaker, .int d_noises, .ref p_noise, .int d_askers, .ref p_asker, .ref p_st, .ref p_images, .ref p_isKept, .long d_trace, .ref p_text, .int d_texted, .int d_cursor, .int d_start, .int d_token, .int d_number, .long d_word, .int d_isWrong, .int d_saidDishes, .ref p_saidMount, .int d_saidSpeakers, .ref p_saidSpeaker, .int d_saidNoises, .ref p_saidNoise, .int d_saidAskers, .ref p_saidAsker, .ref p_room, .int d_couldBe, .int d_couldHere]))] : va_W) sz) [(p_this, .inr (6, [.int d_dishes, .int d_speakers, .ref p_speaker, .int d_noises, .ref p_noise, .int d_askers, .ref p_asker, .ref p_st, .ref p_images, .ref p_isKept, .long d_trace, .ref p_text, .int d_texted, .int d_cursor, .int d_start, .int d_token, .int d_number, .long d_word, .int d_isWrong, .int d_saidDishes, .ref p_saidMount, .int d_saidSpeakers, .ref p_saidSpeaker, .int d_saidNoises, .ref p_saidNoise, .int d_saidAskers, .ref p_saidAsker, .ref p_room, .int d_couldBe, .int d_couldHere]))]) (va_A ([(p_this, .inr (6, [.int d_dishes, .int d_speakers, .ref p_speaker, .int d_noises, .ref p_noise, .int d_askers, .ref p_asker, .ref p_st, .ref p_images, .ref p_isKept, .long d_trace, .ref p_text, .int d_texted, .int d_cursor, .int d_start, .int d_token, .int d_number, .long d_word, .int d_isWrong, .int d_saidDishes, .ref p_saidMount, .int d_saidSpeakers, .ref p_saidSpeaker, .int d_saidNoises, .ref p_saidNoise, .int d_saidAskers, .ref p_saidAsker, .ref p_room, .int d_couldBe, .int d_couldHere]))] : va_W) sz)) 0 0 (va_A ([(p_this, .inr (6, [.int d_dishes, .int d_speakers, .ref p_speaker, .int d_noises, .ref p_noise, .int d_askers, .ref p_asker, .ref p_st, .ref p_images, .ref p_isKept, .long d_trace, .ref p_text, .int d_texted, .int d_cursor, .int d_start, .int d_token, .int d_number, .long d_word, .int d_isWrong, .int d_saidDishes, .ref p_saidMount, .int d_saidSpeakers, .ref p_saidSpeaker, .int d_saidNoises, .ref p_saidNoise, .int d_saidAskers, .ref p_saidAsker, .ref p_room, .int d_couldBe, .int d_couldHere]))] : va_W) sz) := by
  refine Met.ofW (cc := cX6_isDish) (maxL := 2) (ret := (some .boolean)) (by decide) rfl ?_
  intro p e s m args below meth c s₁ B hml hv
  obtain ⟨rfl, hsz, hP, hK, hD0, hN⟩ := hv
  have hx := B.exec
  have hb := B.bytes
  have hr := B.returns
  have hts := atoms_spec (ws := wsX6_isDish) B.pre
  have hown : s.vm.findClass RX6 = some m.cls := findClass_of_methodNamed B.named
  have hlocks := B.notSynchronized
  subst hsz
  have hD := hD0.self (sz := s.heap.size)
  generalize hAe : va_A ([(p_this, .inr (6, [.int d_dishes, .int d_speakers, .ref p_speaker, .int d_noises, .ref p_noise, .int d_askers, .ref p_asker, .ref p_st, .ref p_images, .ref p_isKept, .long d_trace, .ref p_text, .int d_texted, .int d_cursor, .int d_start, .int d_token, .int d_number, .long d_word, .int d_isWrong, .int d_saidDishes, .ref p_saidMount, .int d_saidSpeakers, .ref p_saidSpeaker, .int d_saidNoises, .ref p_saidNoise, .int d_saidAskers, .ref p_saidAsker, .ref p_room, .int d_couldBe, .int d_couldHere]))] : va_W) s.heap.size = A at hD ⊢
  have hA : ∀ q : Nat, s.heap.size ≤ q → A q := fun q h => by rw [← hAe]; exact Or.inr h
  have hS : va_S A s.heap s.heap [] := va_S.rf
  refine W_abs (fun Q hQ => ?_)
  have hl := lv_entry ([.ref p_this, .int x1]) (n := 2) (Nat.le_of_ble_eq_true rfl)
  rw [lg_entry_eq]
  generalize (lg_sl ([.ref p_this, .int x1]) ++ List.replicate (2 - (lg_sl ([.ref p_this, .int x1])).length) Slot.unset).toArray = ls at hl ⊢
  have hl : lv_has ls 2 [(0, .ref p_this), (1, .int x1)] := hl
  rw [f_X6_isDish] at hrun
  refine W_start (ws := [(p_this, .inr (6, [.int d_dishes, .int d_speakers, .ref p_speaker, .int d_noises, .ref p_noise, .int d_askers, .ref p_asker, .ref p_st, .ref p_images, .ref p_isKept, .long d_trace, .ref p_text, .int d_texted, .int d_cursor, .int d_start, .int d_token, .int d_number, .long d_word, .int d_isWrong, .int d_saidDishes, .ref p_saidMount, .int d_saidSpeakers, .ref p_saidSpeaker, .int d_saidNoises, .ref p_saidNoise, .int d_saidAskers, .ref p_saidAsker, .ref p_room, .int d_couldBe, .int d_couldHere]))]) hP hS (fun H locs hP hS => ?_)
  have iwX6 : ∀ w ∈ wsX60, w ∈ wsX6_isDish := by decide +kernel
  refine lv_iload_n hx hb dX6_isDish_0 rfl (lv_at hl 1 rfl) ?_
  refine lv_iconst (v := 0) hx hb dX6_isDish_1 (by decide) ?_
  refine lv_aload_n hx hb dX6_isDish_2 rfl (lv_at hl 0 rfl) ?_
  refine va_get (D := (dC, dI)) (ci := 6) (v := .int d_dishes) (C := RX6) (T := TX6) (N := 30) hx hb hts iwX6 hown hK hP 0 rfl rfl 0 (by decide) (hts (.fieldLink RX6 47 "SkyListenersModel" "dishes" "I") (by decide +kernel)) (fun _ h9 => h9) rfl dX6_isDish_3 ?_
  refine lv_iconst (v := 1) hx hb dX6_isDish_6 (by decide) ?_
  refine lv_isub hx hb dX6_isDish_7 ?_
  have hPc : va_P (dC, dI) vwCl [] H := hP.sub [] rfl
  have hDc : va_D A [] := hD.sub [] (by decide) rfl
  have hFc := va_free (wc := []) hD hS hA [] rfl
  refine va_calli (va_runS (As := [.int x1, .int 0, .int (d_dishes - 1)]) (rest := []) ⟨hx, hb, hml, hown, hts⟩ (c_X6_in l dC dI cI cZ H.size x1 0 (d_dishes - 1) (f_X6_in x1 0 (d_dishes - 1)) rfl) (va_cwS 3 hts gX6_isDish_X6_in rfl rfl rfl (by decide +kernel) ⟨Nat.le_of_ble_eq_true rfl, Nat.le_of_ble_eq_true rfl⟩) ⟨fun a U g mk q => ⟨q.1, PC.mv q.2⟩, fun U hU hW => ⟨rfl, PC.of hU hW hPc hK hDc hN⟩⟩ rfl rfl hl.1 rfl (lv_room (Nat.le_of_ble_eq_true rfl)) dX6_isDish_8 ⟨Nat.zero_le _, Nat.zero_le _⟩) hS (fun q _ h => hFc q h) hFc (fun r_8 u t H1 locs ht hvm hw hB hz1 hk1 hS => ?_)
  obtain ⟨hP1, hD1⟩ := hB
  try dsimp only at hw
  rw [hw]
  rw [ht] at hP1
  have hP : va_P (dC, dI) vwCl [(p_this, .inr (6, [.int d_dishes, .int d_speakers, .ref p_speaker, .int d_noises, .ref p_noise, .int d_askers, .ref p_asker, .ref p_st, .ref p_images, .ref p_isKept, .long d_trace, .ref p_text, .int d_texted, .int d_cursor, .int d_start, .int d_token, .int d_number, .long d_word, .int d_isWrong, .int d_saidDishes, .ref p_saidMount, .int d_saidSpeakers, .ref p_saidSpeaker, .int d_saidNoises, .ref p_saidNoise, .int d_saidAskers, .ref p_saidAsker, .ref p_room, .int d_couldBe, .int d_couldHere]))] H1 := join_ro hP hD [] rfl hk1 hP1
  clear hPc hDc hFc hk1 hz1 hP1 hD1 ht hvm
  generalize H1 = H at hP hS ⊢
  have hrun := hrun
  subst hrun
  rw [hQ]
  exact W.zret (v := (f_X6_in x1 0 (d_dishes - 1))) (ty := .boolean) hx hb hr (nar_b (b_X6_in ..)) (fun t ht hW => ⟨⟨(f_X6_in x1 0 (d_dishes - 1)), (), rfl, rfl, by rw [ht]; exact hP, hD⟩, hS.F ht⟩) hS.2.2 dX6_isDish_11
-- SkyListenersModel.isHour
def f_X6_isHour (x0 : Int32) : Int32 := ((f_X6_in x0 0 23))
theorem b_X6_isHour (x0 : Int32) : f_X6_isHour x0 = 0 ∨ f_X6_isHour x0 = 1 := by unfold f_X6_isHour; first | exact Or.inl rfl | exact Or.inr rfl | exact b_X6_in ..
set_option maxHeartbeats 4000000 in
set_option maxRecDepth 100000 in
theorem c_X6_isHour (l : Launch) (dC : Nat → ClassId) (dI : Nat → Nat → Nat) (cI cZ : ClassId) (sz : Nat) (x0 : Int32) (out : Int32) (hrun : f_X6_isHour x0 = out) : Met l yX6_isHour wsX6_isHour ({ frames := 1, cells := 0, slots := 0, locals := 22 } : Room) (va_Pc [.int x0] (PC dC dI cI cZ sz ([] : va_W))) (va_Qi (fun r (_ : Unit) => r = out) (fun _ t => va_P (dC, dI) vwCl [] t.heap ∧ va_D (va_A ([] : va_W) sz) []) (va_A ([] : va_W) sz)) 0 0 (va_A ([] : va_W) sz) := by
  refine Met.ofW (cc := cX6_isHour) (maxL := 1) (ret := (some .boolean)) (by decide) rfl ?_
  intro p e s m args below meth c s₁ B hml hv
  obtain ⟨rfl, hsz, hP, hK, hD0, hN⟩ := hv
  have hx := B.exec
  have hb := B.bytes
  have hr := B.returns
  have hts := atoms_spec (ws := wsX6_isHour) B.pre
  have hown : s.vm.findClass RX6 = some m.cls := findClass_of_methodNamed B.named
  have hlocks := B.notSynchronized
  subst hsz
  have hD := hD0.self (sz := s.heap.size)
  generalize hAe : va_A ([] : va_W) s.heap.size = A at hD ⊢
  have hA : ∀ q : Nat, s.heap.size ≤ q → A q := fun q h => by rw [← hAe]; exact Or.inr h
  have hS : va_S A s.heap s.heap [] := va_S.rf
  refine W_abs (fun Q hQ => ?_)
  have hl := lv_entry ([.int x0]) (n := 1) (Nat.le_of_ble_eq_true rfl)
  rw [lg_entry_eq]
  generalize (lg_sl ([.int x0]) ++ List.replicate (1 - (lg_sl ([.int x0])).length) Slot.unset).toArray = ls at hl ⊢
  have hl : lv_has ls 1 [(0, .int x0)] := hl
  rw [f_X6_isHour] at hrun
  refine W_start (ws := []) hP hS (fun H locs hP hS => ?_)
  refine lv_iload_n hx hb dX6_isHour_0 rfl (lv_at hl 0 rfl) ?_
  refine lv_iconst (v := 0) hx hb dX6_isHour_1 (by decide) ?_
  refine lv_bipush (v := 23) hx hb dX6_isHour_2 (by decide) ?_
  have hPc : va_P (dC, dI) vwCl [] H := hP.sub [] rfl
  have hDc : va_D A [] := hD.sub [] (by decide) rfl
  have hFc := va_free (wc := []) hD hS hA [] rfl
  refine va_calli (va_runS (As := [.int x0, .int 0, .int 23]) (rest := []) ⟨hx, hb, hml, hown, hts⟩ (c_X6_in l dC dI cI cZ H.size x0 0 23 (f_X6_in x0 0 23) rfl) (va_cwS 3 hts gX6_isHour_X6_in rfl rfl rfl (by decide +kernel) ⟨Nat.le_of_ble_eq_true rfl, Nat.le_of_ble_eq_true rfl⟩) ⟨fun a U g mk q => ⟨q.1, PC.mv q.2⟩, fun U hU hW => ⟨rfl, PC.of hU hW hPc hK hDc hN⟩⟩ rfl rfl hl.1 rfl (lv_room (Nat.le_of_ble_eq_true rfl)) dX6_isHour_4 ⟨Nat.zero_le _, Nat.zero_le _⟩) hS (fun q _ h => hFc q h) hFc (fun r_4 u t H1 locs ht hvm hw hB hz1 hk1 hS => ?_)
  obtain ⟨hP1, hD1⟩ := hB
  try dsimp only at hw
  rw [hw]
  rw [ht] at hP1
  have hP : va_P (dC, dI) vwCl [] H1 := join_ro hP hD [] rfl hk1 hP1
  clear hPc hDc hFc hk1 hz1 hP1 hD1 ht hvm
  generalize H1 = H at hP hS ⊢
  have hrun := hrun
  subst hrun
  rw [hQ]
  exact W.zret (v := (f_X6_in x0 0 23)) (ty := .boolean) hx hb hr (nar_b (b_X6_in ..)) (fun t ht hW => ⟨⟨(f_X6_in x0 0 23), (), rfl, rfl, by rw [ht]; exact hP, hD⟩, hS.F ht⟩) hS.2.2 dX6_isHour_7
-- SkyListenersModel.isNote
def f_X6_isNote (x0 : Int32) : Int32 := ((f_X6_in x0 0 9))
theorem b_X6_isNote (x0 : Int32) : f_X6_isNote x0 = 0 ∨ f_X6_isNote x0 = 1 := by unfold f_X6_isNote; first | exact Or.inl rfl | exact Or.inr rfl | exact b_X6_in ..
set_option maxHeartbeats 4000000 in
set_option maxRecDepth 100000 in
theorem c_X6_isNote (l : Launch) (dC : Nat → ClassId) (dI : Nat → Nat → Nat) (cI cZ : ClassId) (sz : Nat) (x0 : Int32) (out : Int32) (hrun : f_X6_isNote x0 = out) : Met l yX6_isNote wsX6_isNote ({ frames := 1, cells := 0, slots := 0, locals := 22 } : Room) (va_Pc [.int x0] (PC dC dI cI cZ sz ([] : va_W))) (va_Qi (fun r (_ : Unit) => r = out) (fun _ t => va_P (dC, dI) vwCl [] t.heap ∧ va_D (va_A ([] : va_W) sz) []) (va_A ([] : va_W) sz)) 0 0 (va_A ([] : va_W) sz) := by
  refine Met.ofW (cc := cX6_isNote) (maxL := 1) (ret := (some .boolean)) (by decide) rfl ?_
  intro p e s m args below meth c s₁ B hml hv
  obtain ⟨rfl, hsz, hP, hK, hD0, hN⟩ := hv
  have hx := B.exec
  have hb := B.bytes
  have hr := B.returns
  have hts := atoms_spec (ws := wsX6_isNote) B.pre
  have hown : s.vm.findClass RX6 = some m.cls := findClass_of_methodNamed B.named
  have hlocks := B.notSynchronized
  subst hsz
  have hD := hD0.self (sz := s.heap.size)
  generalize hAe : va_A ([] : va_W) s.heap.size = A at hD ⊢
  have hA : ∀ q : Nat, s.heap.size ≤ q → A q := fun q h => by rw [← hAe]; exact Or.inr h
  have hS : va_S A s.heap s.heap [] := va_S.rf
  refine W_abs (fun Q hQ => ?_)
  have hl := lv_entry ([.int x0]) (n := 1) (Nat.le_of_ble_eq_true rfl)
  rw [lg_entry_eq]
  generalize (lg_sl ([.int x0]) ++ List.replicate (1 - (lg_sl ([.int x0])).length) Slot.unset).toArray = ls at hl ⊢
  have hl : lv_has ls 1 [(0, .int x0)] := hl
  rw [f_X6_isNote] at hrun
  refine W_start (ws := []) hP hS (fun H locs hP hS => ?_)
  refine lv_iload_n hx hb dX6_isNote_0 rfl (lv_at hl 0 rfl) ?_
  refine lv_iconst (v := 0) hx hb dX6_isNote_1 (by decide) ?_
  refine lv_bipush (v := 9) hx hb dX6_isNote_2 (by decide) ?_
  have hPc : va_P (dC, dI) vwCl [] H := hP.sub [] rfl
  have hDc : va_D A [] := hD.sub [] (by decide) rfl
  have hFc := va_free (wc := []) hD hS hA [] rfl
  refine va_calli (va_runS (As := [.int x0, .int 0, .int 9]) (rest := []) ⟨hx, hb, hml, hown, hts⟩ (c_X6_in l dC dI cI cZ H.size x0 0 9 (f_X6_in x0 0 9) rfl) (va_cwS 3 hts gX6_isNote_X6_in rfl rfl rfl (by decide +kernel) ⟨Nat.le_of_ble_eq_true rfl, Nat.le_of_ble_eq_true rfl⟩) ⟨fun a U g mk q => ⟨q.1, PC.mv q.2⟩, fun U hU hW => ⟨rfl, PC.of hU hW hPc hK hDc hN⟩⟩ rfl rfl hl.1 rfl (lv_room (Nat.le_of_ble_eq_true rfl)) dX6_isNote_4 ⟨Nat.zero_le _, Nat.zero_le _⟩) hS (fun q _ h => hFc q h) hFc (fun r_4 u t H1 locs ht hvm hw hB hz1 hk1 hS => ?_)
  obtain ⟨hP1, hD1⟩ := hB
  try dsimp only at hw
  rw [hw]
  rw [ht] at hP1
  have hP : va_P (dC, dI) vwCl [] H1 := join_ro hP hD [] rfl hk1 hP1
  clear hPc hDc hFc hk1 hz1 hP1 hD1 ht hvm
  generalize H1 = H at hP hS ⊢
  have hrun := hrun
  subst hrun
  rw [hQ]
  exact W.zret (v := (f_X6_in x0 0 9)) (ty := .boolean) hx hb hr (nar_b (b_X6_in ..)) (fun t ht hW => ⟨⟨(f_X6_in x0 0 9), (), rfl, rfl, by rw [ht]; exact hP, hD⟩, hS.F ht⟩) hS.2.2 dX6_isNote_7
-- SkyListenersModel.isAsker
def f_X6_isAsker (d_askers : Int32) (x1 : Int32) : Int32 := ((f_X6_in x1 0 (d_askers - 1)))
theorem b_X6_isAsker (d_askers : Int32) (x1 : Int32) : f_X6_isAsker d_askers x1 = 0 ∨ f_X6_isAsker d_askers x1 = 1 := by unfold f_X6_isAsker; first | exact Or.inl rfl | exact Or.inr rfl | exact b_X6_in ..
set_option maxHeartbeats 4000000 in
set_option maxRecDepth 100000 in
theorem c_X6_isAsker (l : Launch) (dC : Nat → ClassId) (dI : Nat → Nat → Nat) (cI cZ : ClassId) (sz : Nat) (p_asker p_images p_isKept p_noise p_room p_saidAsker p_saidMount p_saidNoise p_saidSpeaker p_speaker p_st p_text p_this : Nat) (d_dishes : Int32) (d_speakers : Int32) (d_noises : Int32) (d_askers : Int32) (d_trace : Int64) (d_texted : Int32) (d_cursor : Int32) (d_start : Int32) (d_token : Int32) (d_number : Int32) (d_word : Int64) (d_isWrong : Int32) (d_saidDishes : Int32) (d_saidSpeakers : Int32) (d_saidNoises : Int32) (d_saidAskers : Int32) (d_couldBe : Int32) (d_couldHere : Int32) (x1 : Int32) (out : Int32) (hrun : f_X6_isAsker d_askers x1 = out) : Met l yX6_isAsker wsX6_isAsker ({ frames := 1, cells := 0, slots := 0, locals := 22 } : Room) (va_Pc [.ref p_this, .int x1] (PC dC dI cI cZ sz ([(p_this, .inr (6, [.int d_dishes, .int d_speakers, .ref p_speaker, .int d_noises, .ref p_noise, .int d_askers, .ref p_asker, .ref p_st, .ref p_images, .ref p_isKept, .long d_trace, .ref p_text, .int d_texted, .int d_cursor, .int d_start, .int d_token, .int d_number, .long d_word, .int d_isWrong, .int d_saidDishes, .ref p_saidMount, .int d_saidSpeakers, .ref p_saidSpeaker, .int d_saidNoises, .ref p_saidNoise, .int d_saidAskers, .ref p_saidAsker, .ref p_room, .int d_couldBe, .int d_couldHere]))] : va_W))) (va_Qi (fun r (_ : Unit) => r = out) (fun _ t => va_P (dC, dI) vwCl [(p_this, .inr (6, [.int d_dishes, .int d_speakers, .ref p_speaker, .int d_noises, .ref p_noise, .int d_askers, .ref p_asker, .ref p_st, .ref p_images, .ref p_isKept, .long d_trace, .ref p_text, .int d_texted, .int d_cursor, .int d_start, .int d_token, .int d_number, .long d_word, .int d_isWrong, .int d_saidDishes, .ref p_saidMount, .int d_saidSpeakers, .ref p_saidSpeaker, .int d_saidNoises, .ref p_saidNoise, .int d_saidAskers, .ref p_saidAsker, .ref p_room, .int d_couldBe, .int d_couldHere]))] t.heap ∧ va_D (va_A ([(p_this, .inr (6, [.int d_dishes, .int d_speakers, .ref p_speaker, .int d_noises, .ref p_noise, .int d_askers, .ref p_asker, .ref p_st, .ref p_images, .ref p_isKept, .long d_trace, .ref p_text, .int d_texted, .int d_cursor, .int d_start, .int d_token, .int d_number, .long d_word, .int d_isWrong, .int d_saidDishes, .ref p_saidMount, .int d_saidSpeakers, .ref p_saidSpeaker, .int d_saidNoises, .ref p_saidNoise, .int d_saidAskers, .ref p_saidAsker, .ref p_room, .int d_couldBe, .int d_couldHere]))] : va_W) sz) [(p_this, .inr (6, [.int d_dishes, .int d_speakers, .ref p_speaker, .int d_noises, .ref p_noise, .int d_askers, .ref p_asker, .ref p_st, .ref p_images, .ref p_isKept, .long d_trace, .ref p_text, .int d_texted, .int d_cursor, .int d_start, .int d_token, .int d_number, .long d_word, .int d_isWrong, .int d_saidDishes, .ref p_saidMount, .int d_saidSpeakers, .ref p_saidSpeaker, .int d_saidNoises, .ref p_saidNoise, .int d_saidAskers, .ref p_saidAsker, .ref p_room, .int d_couldBe, .int d_couldHere]))]) (va_A ([(p_this, .inr (6, [.int d_dishes, .int d_speakers, .ref p_speaker, .int d_noises, .ref p_noise, .int d_askers, .ref p_asker, .ref p_st, .ref p_images, .ref p_isKept, .long d_trace, .ref p_text, .int d_texted, .int d_cursor, .int d_start, .int d_token, .int d_number, .long d_word, .int d_isWrong, .int d_saidDishes, .ref p_saidMount, .int d_saidSpeakers, .ref p_saidSpeaker, .int d_saidNoises, .ref p_saidNoise, .int d_saidAskers, .ref p_saidAsker, .ref p_room, .int d_couldBe, .int d_couldHere]))] : va_W) sz)) 0 0 (va_A ([(p_this, .inr (6, [.int d_dishes, .int d_speakers, .ref p_speaker, .int d_noises, .ref p_noise, .int d_askers, .ref p_asker, .ref p_st, .ref p_images, .ref p_isKept, .long d_trace, .ref p_text, .int d_texted, .int d_cursor, .int d_start, .int d_token, .int d_number, .long d_word, .int d_isWrong, .int d_saidDishes, .ref p_saidMount, .int d_saidSpeakers, .ref p_saidSpeaker, .int d_saidNoises, .ref p_saidNoise, .int d_saidAskers, .ref p_saidAsker, .ref p_room, .int d_couldBe, .int d_couldHere]))] : va_W) sz) := by
  refine Met.ofW (cc := cX6_isAsker) (maxL := 2) (ret := (some .boolean)) (by decide) rfl ?_
  intro p e s m args below meth c s₁ B hml hv
  obtain ⟨rfl, hsz, hP, hK, hD0, hN⟩ := hv
  have hx := B.exec
  have hb := B.bytes
  have hr := B.returns
  have hts := atoms_spec (ws := wsX6_isAsker) B.pre
  have hown : s.vm.findClass RX6 = some m.cls := findClass_of_methodNamed B.named
  have hlocks := B.notSynchronized
  subst hsz
  have hD := hD0.self (sz := s.heap.size)
  generalize hAe : va_A ([(p_this, .inr (6, [.int d_dishes, .int d_speakers, .ref p_speaker, .int d_noises, .ref p_noise, .int d_askers, .ref p_asker, .ref p_st, .ref p_images, .ref p_isKept, .long d_trace, .ref p_text, .int d_texted, .int d_cursor, .int d_start, .int d_token, .int d_number, .long d_word, .int d_isWrong, .int d_saidDishes, .ref p_saidMount, .int d_saidSpeakers, .ref p_saidSpeaker, .int d_saidNoises, .ref p_saidNoise, .int d_saidAskers, .ref p_saidAsker, .ref p_room, .int d_couldBe, .int d_couldHere]))] : va_W) s.heap.size = A at hD ⊢
  have hA : ∀ q : Nat, s.heap.size ≤ q → A q := fun q h => by rw [← hAe]; exact Or.inr h
  have hS : va_S A s.heap s.heap [] := va_S.rf
  refine W_abs (fun Q hQ => ?_)
  have hl := lv_entry ([.ref p_this, .int x1]) (n := 2) (Nat.le_of_ble_eq_true rfl)
  rw [lg_entry_eq]
  generalize (lg_sl ([.ref p_this, .int x1]) ++ List.replicate (2 - (lg_sl ([.ref p_this, .int x1])).length) Slot.unset).toArray = ls at hl ⊢
  have hl : lv_has ls 2 [(0, .ref p_this), (1, .int x1)] := hl
  rw [f_X6_isAsker] at hrun
  refine W_start (ws := [(p_this, .inr (6, [.int d_dishes, .int d_speakers, .ref p_speaker, .int d_noises, .ref p_noise, .int d_askers, .ref p_asker, .ref p_st, .ref p_images, .ref p_isKept, .long d_trace, .ref p_text, .int d_texted, .int d_cursor, .int d_start, .int d_token, .int d_number, .long d_word, .int d_isWrong, .int d_saidDishes, .ref p_saidMount, .int d_saidSpeakers, .ref p_saidSpeaker, .int d_saidNoises, .ref p_saidNoise, .int d_saidAskers, .ref p_saidAsker, .ref p_room, .int d_couldBe, .int d_couldHere]))]) hP hS (fun H locs hP hS => ?_)
  have iwX6 : ∀ w ∈ wsX60, w ∈ wsX6_isAsker := by decide +kernel
  refine lv_iload_n hx hb dX6_isAsker_0 rfl (lv_at hl 1 rfl) ?_
  refine lv_iconst (v := 0) hx hb dX6_isAsker_1 (by decide) ?_
  refine lv_aload_n hx hb dX6_isAsker_2 rfl (lv_at hl 0 rfl) ?_
  refine va_get (D := (dC, dI)) (ci := 6) (v := .int d_askers) (C := RX6) (T := TX6) (N := 30) hx hb hts iwX6 hown hK hP 0 rfl rfl 5 (by decide) (hts (.fieldLink RX6 55 "SkyListenersModel" "askers" "I") (by decide +kernel)) (fun _ h9 => h9) rfl dX6_isAsker_3 ?_
  refine lv_iconst (v := 1) hx hb dX6_isAsker_6 (by decide) ?_
  refine lv_isub hx hb dX6_isAsker_7 ?_
  have hPc : va_P (dC, dI) vwCl [] H := hP.sub [] rfl
  have hDc : va_D A [] := hD.sub [] (by decide) rfl
  have hFc := va_free (wc := []) hD hS hA [] rfl
  refine va_calli (va_runS (As := [.int x1, .int 0, .int (d_askers - 1)]) (rest := []) ⟨hx, hb, hml, hown, hts⟩ (c_X6_in l dC dI cI cZ H.size x1 0 (d_askers - 1) (f_X6_in x1 0 (d_askers - 1)) rfl) (va_cwS 3 hts gX6_isAsker_X6_in rfl rfl rfl (by decide +kernel) ⟨Nat.le_of_ble_eq_true rfl, Nat.le_of_ble_eq_true rfl⟩) ⟨fun a U g mk q => ⟨q.1, PC.mv q.2⟩, fun U hU hW => ⟨rfl, PC.of hU hW hPc hK hDc hN⟩⟩ rfl rfl hl.1 rfl (lv_room (Nat.le_of_ble_eq_true rfl)) dX6_isAsker_8 ⟨Nat.zero_le _, Nat.zero_le _⟩) hS (fun q _ h => hFc q h) hFc (fun r_8 u t H1 locs ht hvm hw hB hz1 hk1 hS => ?_)
  obtain ⟨hP1, hD1⟩ := hB
  try dsimp only at hw
  rw [hw]
  rw [ht] at hP1
  have hP : va_P (dC, dI) vwCl [(p_this, .inr (6, [.int d_dishes, .int d_speakers, .ref p_speaker, .int d_noises, .ref p_noise, .int d_askers, .ref p_asker, .ref p_st, .ref p_images, .ref p_isKept, .long d_trace, .ref p_text, .int d_texted, .int d_cursor, .int d_start, .int d_token, .int d_number, .long d_word, .int d_isWrong, .int d_saidDishes, .ref p_saidMount, .int d_saidSpeakers, .ref p_saidSpeaker, .int d_saidNoises, .ref p_saidNoise, .int d_saidAskers, .ref p_saidAsker, .ref p_room, .int d_couldBe, .int d_couldHere]))] H1 := join_ro hP hD [] rfl hk1 hP1
  clear hPc hDc hFc hk1 hz1 hP1 hD1 ht hvm
  generalize H1 = H at hP hS ⊢
  have hrun := hrun
  subst hrun
  rw [hQ]
  exact W.zret (v := (f_X6_in x1 0 (d_askers - 1))) (ty := .boolean) hx hb hr (nar_b (b_X6_in ..)) (fun t ht hW => ⟨⟨(f_X6_in x1 0 (d_askers - 1)), (), rfl, rfl, by rw [ht]; exact hP, hD⟩, hS.F ht⟩) hS.2.2 dX6_isAsker_11
-- SkyListenersModel.type
def f_X6_type_L32 (x1 : Int64) : Nat → Int32 → Int32 → (Nat → Int32) → Option (Int32 × Int32 × (Nat → Int32))
  | 0, _, _, _ => none
  | n9 + 1, x4, d_texted, d_text => (if x4 < 0 then (some (d_texted, d_texted, d_text)) else (if d_texted < 0 ∨ 250 ≤ d_texted.toNatClampNeg then none else (f_X6_type_L32  x1 n9 (x4 + (-1)) (d_texted + 1) (upd d_text d_texted.toNatClampNeg (((x1 >>> ((8 * x4).toInt64 &&& 63)) &&& 255).toInt32)))))
def f_X6_type (d_texted : Int32) (d_text : Nat → Int32) (x1 : Int64) (x3 : Int32) : Option (Int32 × Int32 × (Nat → Int32)) := (if (f_X6_in x3 1 8) = 0 then (some ((-1), d_texted, d_text)) else (if (d_texted + x3) ≤ 250 then (f_X6_type_L32 x1 FU (x3 - 1) d_texted d_text) else (some ((-3), d_texted, d_text))))
set_option maxHeartbeats 4000000 in
set_option maxRecDepth 100000 in
theorem c_X6_type (l : Launch) (dC : Nat → ClassId) (dI : Nat → Nat → Nat) (cI cZ : ClassId) (sz : Nat) (p_asker p_images p_isKept p_noise p_room p_saidAsker p_saidMount p_saidNoise p_saidSpeaker p_speaker p_st p_text p_this : Nat) (d_dishes : Int32) (d_speakers : Int32) (d_noises : Int32) (d_askers : Int32) (d_trace : Int64) (d_texted : Int32) (d_cursor : Int32) (d_start : Int32) (d_token : Int32) (d_number : Int32) (d_word : Int64) (d_isWrong : Int32) (d_saidDishes : Int32) (d_saidSpeakers : Int32) (d_saidNoises : Int32) (d_saidAskers : Int32) (d_couldBe : Int32) (d_couldHere : Int32) (d_text : Nat → Int32) (x1 : Int64) (x3 : Int32) (out : Int32 × Int32 × (Nat → Int32)) (hrun : f_X6_type d_texted d_text x1 x3 = some out) : Met l yX6_type wsX6_type ({ frames := 1, cells := 0, slots := 0, locals := 22 } : Room) (va_Pc [.ref p_this, .long x1, .int x3] (PC dC dI cI cZ sz ([(p_this, .inr (6, [.int d_dishes, .int d_speakers, .ref p_speaker, .int d_noises, .ref p_noise, .int d_askers, .ref p_asker, .ref p_st, .ref p_images, .ref p_isKept, .long d_trace, .ref p_text, .int d_texted, .int d_cursor, .int d_start, .int d_token, .int d_number, .long d_word, .int d_isWrong, .int d_saidDishes, .ref p_saidMount, .int d_saidSpeakers, .ref p_saidSpeaker, .int d_saidNoises, .ref p_saidNoise, .int d_saidAskers, .ref p_saidAsker, .ref p_room, .int d_couldBe, .int d_couldHere])), (p_text, .inl (cI, 250, .inl d_text))] : va_W))) (va_Qi (fun r (_ : Unit) => r = out.1) (fun _ t => va_P (dC, dI) vwCl [(p_this, .inr (6, [.int d_dishes, .int d_speakers, .ref p_speaker, .int d_noises, .ref p_noise, .int d_askers, .ref p_asker, .ref p_st, .ref p_images, .ref p_isKept, .long d_trace, .ref p_text, .int out.2.1, .int d_cursor, .int d_start, .int d_token, .int d_number, .long d_word, .int d_isWrong, .int d_saidDishes, .ref p_saidMount, .int d_saidSpeakers, .ref p_saidSpeaker, .int d_saidNoises, .ref p_saidNoise, .int d_saidAskers, .ref p_saidAsker, .ref p_room, .int d_couldBe, .int d_couldHere])), (p_text, .inl (cI, 250, .inl out.2.2))] t.heap ∧ va_D (va_A ([(p_this, .inr (6, [.int d_dishes, .int d_speakers, .ref p_speaker, .int d_noises, .ref p_noise, .int d_askers, .ref p_asker, .ref p_st, .ref p_images, .ref p_isKept, .long d_trace, .ref p_text, .int d_texted, .int d_cursor, .int d_start, .int d_token, .int d_number, .long d_word, .int d_isWrong, .int d_saidDishes, .ref p_saidMount, .int d_saidSpeakers, .ref p_saidSpeaker, .int d_saidNoises, .ref p_saidNoise, .int d_saidAskers, .ref p_saidAsker, .ref p_room, .int d_couldBe, .int d_couldHere])), (p_text, .inl (cI, 250, .inl d_text))] : va_W) sz) [(p_this, .inr (6, [.int d_dishes, .int d_speakers, .ref p_speaker, .int d_noises, .ref p_noise, .int d_askers, .ref p_asker, .ref p_st, .ref p_images, .ref p_isKept, .long d_trace, .ref p_text, .int out.2.1, .int d_cursor, .int d_start, .int d_token, .int d_number, .long d_word, .int d_isWrong, .int d_saidDishes, .ref p_saidMount, .int d_saidSpeakers, .ref p_saidSpeaker, .int d_saidNoises, .ref p_saidNoise, .int d_saidAskers, .ref p_saidAsker, .ref p_room, .int d_couldBe, .int d_couldHere])), (p_text, .inl (cI, 250, .inl out.2.2))]) (va_A ([(p_this, .inr (6, [.int d_dishes, .int d_speakers, .ref p_speaker, .int d_noises, .ref p_noise, .int d_askers, .ref p_asker, .ref p_st, .ref p_images, .ref p_isKept, .long d_trace, .ref p_text, .int d_texted, .int d_cursor, .int d_start, .int d_token, .int d_number, .long d_word, .int d_isWrong, .int d_saidDishes, .ref p_saidMount, .int d_saidSpeakers, .ref p_saidSpeaker, .int d_saidNoises, .ref p_saidNoise, .int d_saidAskers, .ref p_saidAsker, .ref p_room, .int d_couldBe, .int d_couldHere])), (p_text, .inl (cI, 250, .inl d_text))] : va_W) sz)) 0 0 (va_A ([(p_this, .inr (6, [.int d_dishes, .int d_speakers, .ref p_speaker, .int d_noises, .ref p_noise, .int d_askers, .ref p_asker, .ref p_st, .ref p_images, .ref p_isKept, .long d_trace, .ref p_text, .int d_texted, .int d_cursor, .int d_start, .int d_token, .int d_number, .long d_word, .int d_isWrong, .int d_saidDishes, .ref p_saidMount, .int d_saidSpeakers, .ref p_saidSpeaker, .int d_saidNoises, .ref p_saidNoise, .int d_saidAskers, .ref p_saidAsker, .ref p_room, .int d_couldBe, .int d_couldHere])), (p_text, .inl (cI, 250, .inl d_text))] : va_W) sz) := by
  refine Met.ofW (cc := cX6_type) (maxL := 5) (ret := (some .int)) (by decide) rfl ?_
  intro p e s m args below meth c s₁ B hml hv
  obtain ⟨rfl, hsz, hP, hK, hD0, hN⟩ := hv
  have hx := B.exec
  have hb := B.bytes
  have hr := B.returns
  have hts := atoms_spec (ws := wsX6_type) B.pre
  have hown : s.vm.findClass RX6 = some m.cls := findClass_of_methodNamed B.named
  have hlocks := B.notSynchronized
  subst hsz
  have hD := hD0.self (sz := s.heap.size)
  generalize hAe : va_A ([(p_this, .inr (6, [.int d_dishes, .int d_speakers, .ref p_speaker, .int d_noises, .ref p_noise, .int d_askers, .ref p_asker, .ref p_st, .ref p_images, .ref p_isKept, .long d_trace, .ref p_text, .int d_texted, .int d_cursor, .int d_start, .int d_token, .int d_number, .long d_word, .int d_isWrong, .int d_saidDishes, .ref p_saidMount, .int d_saidSpeakers, .ref p_saidSpeaker, .int d_saidNoises, .ref p_saidNoise, .int d_saidAskers, .ref p_saidAsker, .ref p_room, .int d_couldBe, .int d_couldHere])), (p_text, .inl (cI, 250, .inl d_text))] : va_W) s.heap.size = A at hD ⊢
  have hA : ∀ q : Nat, s.heap.size ≤ q → A q := fun q h => by rw [← hAe]; exact Or.inr h
  have hS : va_S A s.heap s.heap [] := va_S.rf
  refine W_abs (fun Q hQ => ?_)
  have hl := lv_entry ([.ref p_this, .long x1, .int x3]) (n := 5) (Nat.le_of_ble_eq_true rfl)
  rw [lg_entry_eq]
  generalize (lg_sl ([.ref p_this, .long x1, .int x3]) ++ List.replicate (5 - (lg_sl ([.ref p_this, .long x1, .int x3])).length) Slot.unset).toArray = ls at hl ⊢
  have hl : lv_has ls 5 [(0, .ref p_this), (1, .long x1), (3, .int x3)] := hl
  rw [f_X6_type] at hrun
  refine W_start (ws := [(p_this, .inr (6, [.int d_dishes, .int d_speakers, .ref p_speaker, .int d_noises, .ref p_noise, .int d_askers, .ref p_asker, .ref p_st, .ref p_images, .ref p_isKept, .long d_trace, .ref p_text, .int d_texted, .int d_cursor, .int d_start, .int d_token, .int d_number, .long d_word, .int d_isWrong, .int d_saidDishes, .ref p_saidMount, .int d_saidSpeakers, .ref p_saidSpeaker, .int d_saidNoises, .ref p_saidNoise, .int d_saidAskers, .ref p_saidAsker, .ref p_room, .int d_couldBe, .int d_couldHere])), (p_text, .inl (cI, 250, .inl d_text))]) hP hS (fun H locs hP hS => ?_)
  have iwX6 : ∀ w ∈ wsX60, w ∈ wsX6_type := by decide +kernel
  refine lv_iload_n hx hb dX6_type_0 rfl (lv_at hl 2 rfl) ?_
  refine lv_iconst (v := 1) hx hb dX6_type_1 (by decide) ?_
  refine lv_bipush (v := 8) hx hb dX6_type_2 (by decide) ?_
  have hPc : va_P (dC, dI) vwCl [] H := hP.sub [] rfl
  have hDc : va_D A [] := hD.sub [] (by decide) rfl
  have hFc := va_free (wc := []) hD hS hA [] rfl
  refine va_calli (va_runS (As := [.int x3, .int 1, .int 8]) (rest := []) ⟨hx, hb, hml, hown, hts⟩ (c_X6_in l dC dI cI cZ H.size x3 1 8 (f_X6_in x3 1 8) rfl) (va_cwS 3 hts gX6_type_X6_in rfl rfl rfl (by decide +kernel) ⟨Nat.le_of_ble_eq_true rfl, Nat.le_of_ble_eq_true rfl⟩) ⟨fun a U g mk q => ⟨q.1, PC.mv q.2⟩, fun U hU hW => ⟨rfl, PC.of hU hW hPc hK hDc hN⟩⟩ rfl rfl hl.1 rfl (lv_room (Nat.le_of_ble_eq_true rfl)) dX6_type_4 ⟨Nat.zero_le _, Nat.zero_le _⟩) hS (fun q _ h => hFc q h) hFc (fun r_4 u t H1 locs ht hvm hw hB hz1 hk1 hS => ?_)
  obtain ⟨hP1, hD1⟩ := hB
  try dsimp only at hw
  rw [hw]
  rw [ht] at hP1
  have hP : va_P (dC, dI) vwCl [(p_this, .inr (6, [.int d_dishes, .int d_speakers, .ref p_speaker, .int d_noises, .ref p_noise, .int d_askers, .ref p_asker, .ref p_st, .ref p_images, .ref p_isKept, .long d_trace, .ref p_text, .int d_texted, .int d_cursor, .int d_start, .int d_token, .int d_number, .long d_word, .int d_isWrong, .int d_saidDishes, .ref p_saidMount, .int d_saidSpeakers, .ref p_saidSpeaker, .int d_saidNoises, .ref p_saidNoise, .int d_saidAskers, .ref p_saidAsker, .ref p_room, .int d_couldBe, .int d_couldHere])), (p_text, .inl (cI, 250, .inl d_text))] H1 := join_ro hP hD [] rfl hk1 hP1
  clear hPc hDc hFc hk1 hz1 hP1 hD1 ht hvm
  generalize H1 = H at hP hS ⊢
  refine lv_if_ne (tgt := 12) hx hb dX6_type_7 (by decide) (fun c_7 => ?_) (fun c_7 => ?_)
  · rw [if_neg c_7] at hrun
    refine lv_aload_n hx hb dX6_type_12 rfl (lv_at hl 0 rfl) ?_
    refine va_get (D := (dC, dI)) (ci := 6) (v := .int d_texted) (C := RX6) (T := TX6) (N := 30) hx hb hts iwX6 hown hK hP 0 rfl rfl 12 (by decide) (hts (.fieldLink RX6 58 "SkyListenersModel" "texted" "I") (by decide +kernel)) (fun _ h9 => h9) rfl dX6_type_13 ?_
    refine lv_iload_n hx hb dX6_type_16 rfl (lv_at hl 2 rfl) ?_
    refine lv_iadd hx hb dX6_type_17 ?_
    refine lv_sipush (v := 250) hx hb dX6_type_18 (by decide) ?_
    refine lv_icmp_le (tgt := 27) hx hb dX6_type_21 (by decide) (fun c_21 => ?_) (fun c_21 => ?_)
    · rw [if_pos c_21] at hrun
      refine lv_iload_n hx hb dX6_type_27 rfl (lv_at hl 2 rfl) ?_
      refine lv_iconst (v := 1) hx hb dX6_type_28 (by decide) ?_
      refine lv_isub hx hb dX6_type_29 ?_
      refine lv_istore (lv' := [(4, .int (x3 - 1)), (0, .ref p_this), (1, .long x1), (3, .int x3)]) hx hb dX6_type_30 hl (by decide) rfl (fun ls hl => ?_)
      have L32 : ∀ (n9_32 : Nat) (x4_32 : Int32) (d_texted_32 : Int32) (d_text_32 : Nat → Int32) (H : Heap) (locs : List Loc), va_P (dC, dI) vwCl [(p_this, .inr (6, [.int d_dishes, .int d_speakers, .ref p_speaker, .int d_noises, .ref p_noise, .int d_askers, .ref p_asker, .ref p_st, .ref p_images, .ref p_isKept, .long d_trace, .ref p_text, .int d_texted_32, .int d_cursor, .int d_start, .int d_token, .int d_number, .long d_word, .int d_isWrong, .int d_saidDishes, .ref p_saidMount, .int d_saidSpeakers, .ref p_saidSpeaker, .int d_saidNoises, .ref p_saidNoise, .int d_saidAskers, .ref p_saidAsker, .ref p_room, .int d_couldBe, .int d_couldHere])), (p_text, .inl (cI, 250, .inl d_text_32))] H → va_D A [(p_this, .inr (6, [.int d_dishes, .int d_speakers, .ref p_speaker, .int d_noises, .ref p_noise, .int d_askers, .ref p_asker, .ref p_st, .ref p_images, .ref p_isKept, .long d_trace, .ref p_text, .int d_texted_32, .int d_cursor, .int d_start, .int d_token, .int d_number, .long d_word, .int d_isWrong, .int d_saidDishes, .ref p_saidMount, .int d_saidSpeakers, .ref p_saidSpeaker, .int d_saidNoises, .ref p_saidNoise, .int d_saidAskers, .ref p_saidAsker, .ref p_room, .int d_couldBe, .int d_couldHere])), (p_text, .inl (cI, 250, .inl d_text_32))] → va_S A s.heap H locs → ∀ ls : Array Slot, lv_has ls 5 [(0, .ref p_this), (1, .long x1), (4, .int x4_32)] → f_X6_type_L32 x1 n9_32 x4_32 d_texted_32 d_text_32 = some out → W p l e ({ frames := 1, cells := 0, slots := 0, locals := 22 } : Room) s m ([.ref p_this, .long x1, .int x3] : List Value).toArray below meth c H locs 0 0 Q (F0 m 32 ls []) := by
        intro n9_32
        induction n9_32 with
        | zero =>
          intro x4_32 d_texted_32 d_text_32 H locs hP hD hS ls hl hrun
          rw [f_X6_type_L32] at hrun
          cases hrun
        | succ n9_32 ih32 =>
          intro x4_32 d_texted_32 d_text_32 H locs hP hD hS ls hl hrun
          rw [f_X6_type_L32] at hrun
          refine lv_iload hx hb dX6_type_32 (lv_at hl 2 rfl) ?_
          refine lv_if_lt (tgt := 74) hx hb dX6_type_34 (by decide) (fun c_34 => ?_) (fun c_34 => ?_)
          · rw [if_pos c_34] at hrun
            refine lv_aload_n hx hb dX6_type_74 rfl (lv_at hl 0 rfl) ?_
            refine va_get (D := (dC, dI)) (ci := 6) (v := .int d_texted_32) (C := RX6) (T := TX6) (N := 30) hx hb hts iwX6 hown hK hP 0 rfl rfl 12 (by decide) (hts (.fieldLink RX6 58 "SkyListenersModel" "texted" "I") (by decide +kernel)) (fun _ h9 => h9) rfl dX6_type_75 ?_
            have hrun := Option.some.inj hrun
            subst hrun
            rw [hQ]
            exact W.iret (v := d_texted_32) hx hb hr (fun t ht hW => ⟨⟨d_texted_32, (), rfl, rfl, by rw [ht]; exact hP, hD⟩, hS.F ht⟩) hS.2.2 dX6_type_78
          · rw [if_neg c_34] at hrun
            refine lv_aload_n hx hb dX6_type_37 rfl (lv_at hl 0 rfl) ?_
            refine va_get (D := (dC, dI)) (ci := 6) (v := .ref p_text) (C := RX6) (T := TX6) (N := 30) hx hb hts iwX6 hown hK hP 0 rfl rfl 11 (by decide) (hts (.fieldLink RX6 29 "SkyListenersModel" "text" "[I") (by decide +kernel)) (fun _ h9 => h9) rfl dX6_type_38 ?_
            refine lv_aload_n hx hb dX6_type_41 rfl (lv_at hl 0 rfl) ?_
            refine va_get (D := (dC, dI)) (ci := 6) (v := .int d_texted_32) (C := RX6) (T := TX6) (N := 30) hx hb hts iwX6 hown hK hP 0 rfl rfl 12 (by decide) (hts (.fieldLink RX6 58 "SkyListenersModel" "texted" "I") (by decide +kernel)) (fun _ h9 => h9) rfl dX6_type_42 ?_
            refine lv_lload_n hx hb dX6_type_45 rfl (lv_at hl 1 rfl) ?_
            refine lv_bipush (v := 8) hx hb dX6_type_46 (by decide) ?_
            refine lv_iload hx hb dX6_type_48 (lv_at hl 2 rfl) ?_
            refine lv_imul hx hb dX6_type_50 ?_
            refine lv_lshr (v := x1 >>> ((8 * x4_32).toInt64 &&& 63)) hx hb dX6_type_51 rfl ?_
            refine lv_ldc2 (v := 255) hx hb hown (hts (.constantLong RX6 61 (255)) (by decide +kernel)) dX6_type_52 ?_
            refine lv_land hx hb dX6_type_55 ?_
            refine lv_l2i (v := ((x1 >>> ((8 * x4_32).toInt64 &&& 63)) &&& 255).toInt32) hx hb dX6_type_56 rfl ?_
            rcases Classical.em (d_texted_32 < 0 ∨ 250 ≤ d_texted_32.toNatClampNeg) with g_57 | g_57
            · rw [if_pos g_57] at hrun; cases hrun
            rw [if_neg g_57] at hrun
            refine va_iast hx hb hK hP hD hS 1 0 rfl rfl g_57 dX6_type_57 (fun H locs hP hD hS => ?_)
            have hP : va_P (dC, dI) vwCl [(p_this, .inr (6, [.int d_dishes, .int d_speakers, .ref p_speaker, .int d_noises, .ref p_noise, .int d_askers, .ref p_asker, .ref p_st, .ref p_images, .ref p_isKept, .long d_trace, .ref p_text, .int d_texted_32, .int d_cursor, .int d_start, .int d_token, .int d_number, .long d_word, .int d_isWrong, .int d_saidDishes, .ref p_saidMount, .int d_saidSpeakers, .ref p_saidSpeaker, .int d_saidNoises, .ref p_saidNoise, .int d_saidAskers, .ref p_saidAsker, .ref p_room, .int d_couldBe, .int d_couldHere])), (p_text, .inl (cI, 250, .inl (upd d_text_32 d_texted_32.toNatClampNeg (((x1 >>> ((8 * x4_32).toInt64 &&& 63)) &&& 255).toInt32))))] H := hP
            have hD : va_D A [(p_this, .inr (6, [.int d_dishes, .int d_speakers, .ref p_speaker, .int d_noises, .ref p_noise, .int d_askers, .ref p_asker, .ref p_st, .ref p_images, .ref p_isKept, .long d_trace, .ref p_text, .int d_texted_32, .int d_cursor, .int d_start, .int d_token, .int d_number, .long d_word, .int d_isWrong, .int d_saidDishes, .ref p_saidMount, .int d_saidSpeakers, .ref p_saidSpeaker, .int d_saidNoises, .ref p_saidNoise, .int d_saidAskers, .ref p_saidAsker, .ref p_room, .int d_couldBe, .int d_couldHere])), (p_text, .inl (cI, 250, .inl (upd d_text_32 d_texted_32.toNatClampNeg (((x1 >>> ((8 * x4_32).toInt64 &&& 63)) &&& 255).toInt32))))] := hD
            refine lv_aload_n hx hb dX6_type_58 rfl (lv_at hl 0 rfl) ?_
            refine lv_dup hx hb dX6_type_59 rfl ?_
            refine va_get (D := (dC, dI)) (ci := 6) (v := .int d_texted_32) (C := RX6) (T := TX6) (N := 30) hx hb hts iwX6 hown hK hP 0 rfl rfl 12 (by decide) (hts (.fieldLink RX6 58 "SkyListenersModel" "texted" "I") (by decide +kernel)) (fun _ h9 => h9) rfl dX6_type_60 ?_
            refine lv_iconst (v := 1) hx hb dX6_type_63 (by decide) ?_
            refine lv_iadd hx hb dX6_type_64 ?_
            refine va_put (D := (dC, dI)) (ci := 6) (v := .int (d_texted_32 + 1)) (ty := .int) (C := RX6) (T := TX6) (N := 30) hx hb hts iwX6 tyX6 tyX6_ok nmX6 hown hK hP hD hS 0 rfl rfl 12 (by decide) (hts (.fieldLink RX6 58 "SkyListenersModel" "texted" "I") (by decide +kernel)) (fun _ h9 => h9) rfl (by decide +kernel) rfl rfl (Nat.le_of_ble_eq_true rfl) dX6_type_65 (fun H locs hP hD hS => ?_)
            have hP : va_P (dC, dI) vwCl [(p_this, .inr (6, [.int d_dishes, .int d_speakers, .ref p_speaker, .int d_noises, .ref p_noise, .int d_askers, .ref p_asker, .ref p_st, .ref p_images, .ref p_isKept, .long d_trace, .ref p_text, .int (d_texted_32 + 1), .int d_cursor, .int d_start, .int d_token, .int d_number, .long d_word, .int d_isWrong, .int d_saidDishes, .ref p_saidMount, .int d_saidSpeakers, .ref p_saidSpeaker, .int d_saidNoises, .ref p_saidNoise, .int d_saidAskers, .ref p_saidAsker, .ref p_room, .int d_couldBe, .int d_couldHere])), (p_text, .inl (cI, 250, .inl (upd d_text_32 d_texted_32.toNatClampNeg (((x1 >>> ((8 * x4_32).toInt64 &&& 63)) &&& 255).toInt32))))] H := hP
            have hD : va_D A [(p_this, .inr (6, [.int d_dishes, .int d_speakers, .ref p_speaker, .int d_noises, .ref p_noise, .int d_askers, .ref p_asker, .ref p_st, .ref p_images, .ref p_isKept, .long d_trace, .ref p_text, .int (d_texted_32 + 1), .int d_cursor, .int d_start, .int d_token, .int d_number, .long d_word, .int d_isWrong, .int d_saidDishes, .ref p_saidMount, .int d_saidSpeakers, .ref p_saidSpeaker, .int d_saidNoises, .ref p_saidNoise, .int d_saidAskers, .ref p_saidAsker, .ref p_room, .int d_couldBe, .int d_couldHere])), (p_text, .inl (cI, 250, .inl (upd d_text_32 d_texted_32.toNatClampNeg (((x1 >>> ((8 * x4_32).toInt64 &&& 63)) &&& 255).toInt32))))] := hD
            refine lv_iinc (v := x4_32 + (-1)) (lv' := [(4, .int (x4_32 + (-1))), (0, .ref p_this), (1, .long x1)]) hx hb dX6_type_68 hl (k := 2) rfl rfl (by decide) rfl (fun ls hl => ?_)
            refine lv_goto (tgt := 32) hx hb dX6_type_71 (by decide) ?_
            exact ih32 (x4_32 + (-1)) (d_texted_32 + 1) (upd d_text_32 d_texted_32.toNatClampNeg (((x1 >>> ((8 * x4_32).toInt64 &&& 63)) &&& 255).toInt32)) H locs hP hD hS ls (lv_sub hl [1, 2, 0] rfl) hrun
      exact L32 FU (x3 - 1) d_texted d_text H locs hP hD hS ls (lv_sub hl [1, 2, 0] rfl) hrun
    · rw [if_neg c_21] at hrun
      refine lv_bipush (v := (-3)) hx hb dX6_type_24 (by decide) ?_
      have hrun := Option.some.inj hrun
      subst hrun
      rw [hQ]
      exact W.iret (v := (-3)) hx hb hr (fun t ht hW => ⟨⟨(-3), (), rfl, rfl, by rw [ht]; exact hP, hD⟩, hS.F ht⟩) hS.2.2 dX6_type_26
  · rw [if_pos c_7] at hrun
    refine lv_iconst (v := (-1)) hx hb dX6_type_10 (by decide) ?_
    have hrun := Option.some.inj hrun
    subst hrun
    rw [hQ]
    exact W.iret (v := (-1)) hx hb hr (fun t ht hW => ⟨⟨(-1), (), rfl, rfl, by rw [ht]; exact hP, hD⟩, hS.F ht⟩) hS.2.2 dX6_type_11
-- SkyListenersModel.clear
def f_X6_clear (d_texted : Int32) : Int32 × Int32 := ((d_texted, 0))
set_option maxHeartbeats 4000000 in
set_option maxRecDepth 100000 in
theorem c_X6_clear (l : Launch) (dC : Nat → ClassId) (dI : Nat → Nat → Nat) (cI cZ : ClassId) (sz : Nat) (p_asker p_images p_isKept p_noise p_room p_saidAsker p_saidMount p_saidNoise p_saidSpeaker p_speaker p_st p_text p_this : Nat) (d_dishes : Int32) (d_speakers : Int32) (d_noises : Int32) (d_askers : Int32) (d_trace : Int64) (d_texted : Int32) (d_cursor : Int32) (d_start : Int32) (d_token : Int32) (d_number : Int32) (d_word : Int64) (d_isWrong : Int32) (d_saidDishes : Int32) (d_saidSpeakers : Int32) (d_saidNoises : Int32) (d_saidAskers : Int32) (d_couldBe : Int32) (d_couldHere : Int32) (out : Int32 × Int32) (hrun : f_X6_clear d_texted = out) : Met l yX6_clear wsX6_clear ({ frames := 0, cells := 0, slots := 0, locals := 0 } : Room) (va_Pc [.ref p_this] (PC dC dI cI cZ sz ([(p_this, .inr (6, [.int d_dishes, .int d_speakers, .ref p_speaker, .int d_noises, .ref p_noise, .int d_askers, .ref p_asker, .ref p_st, .ref p_images, .ref p_isKept, .long d_trace, .ref p_text, .int d_texted, .int d_cursor, .int d_start, .int d_token, .int d_number, .long d_word, .int d_isWrong, .int d_saidDishes, .ref p_saidMount, .int d_saidSpeakers, .ref p_saidSpeaker, .int d_saidNoises, .ref p_saidNoise, .int d_saidAskers, .ref p_saidAsker, .ref p_room, .int d_couldBe, .int d_couldHere]))] : va_W))) (va_Qi (fun r (_ : Unit) => r = out.1) (fun _ t => va_P (dC, dI) vwCl [(p_this, .inr (6, [.int d_dishes, .int d_speakers, .ref p_speaker, .int d_noises, .ref p_noise, .int d_askers, .ref p_asker, .ref p_st, .ref p_images, .ref p_isKept, .long d_trace, .ref p_text, .int out.2, .int d_cursor, .int d_start, .int d_token, .int d_number, .long d_word, .int d_isWrong, .int d_saidDishes, .ref p_saidMount, .int d_saidSpeakers, .ref p_saidSpeaker, .int d_saidNoises, .ref p_saidNoise, .int d_saidAskers, .ref p_saidAsker, .ref p_room, .int d_couldBe, .int d_couldHere]))] t.heap ∧ va_D (va_A ([(p_this, .inr (6, [.int d_dishes, .int d_speakers, .ref p_speaker, .int d_noises, .ref p_noise, .int d_askers, .ref p_asker, .ref p_st, .ref p_images, .ref p_isKept, .long d_trace, .ref p_text, .int d_texted, .int d_cursor, .int d_start, .int d_token, .int d_number, .long d_word, .int d_isWrong, .int d_saidDishes, .ref p_saidMount, .int d_saidSpeakers, .ref p_saidSpeaker, .int d_saidNoises, .ref p_saidNoise, .int d_saidAskers, .ref p_saidAsker, .ref p_room, .int d_couldBe, .int d_couldHere]))] : va_W) sz) [(p_this, .inr (6, [.int d_dishes, .int d_speakers, .ref p_speaker, .int d_noises, .ref p_noise, .int d_askers, .ref p_asker, .ref p_st, .ref p_images, .ref p_isKept, .long d_trace, .ref p_text, .int out.2, .int d_cursor, .int d_start, .int d_token, .int d_number, .long d_word, .int d_isWrong, .int d_saidDishes, .ref p_saidMount, .int d_saidSpeakers, .ref p_saidSpeaker, .int d_saidNoises, .ref p_saidNoise, .int d_saidAskers, .ref p_saidAsker, .ref p_room, .int d_couldBe, .int d_couldHere]))]) (va_A ([(p_this, .inr (6, [.int d_dishes, .int d_speakers, .ref p_speaker, .int d_noises, .ref p_noise, .int d_askers, .ref p_asker, .ref p_st, .ref p_images, .ref p_isKept, .long d_trace, .ref p_text, .int d_texted, .int d_cursor, .int d_start, .int d_token, .int d_number, .long d_word, .int d_isWrong, .int d_saidDishes, .ref p_saidMount, .int d_saidSpeakers, .ref p_saidSpeaker, .int d_saidNoises, .ref p_saidNoise, .int d_saidAskers, .ref p_saidAsker, .ref p_room, .int d_couldBe, .int d_couldHere]))] : va_W) sz)) 0 0 (va_A ([(p_this, .inr (6, [.int d_dishes, .int d_speakers, .ref p_speaker, .int d_noises, .ref p_noise, .int d_askers, .ref p_asker, .ref p_st, .ref p_images, .ref p_isKept, .long d_trace, .ref p_text, .int d_texted, .int d_cursor, .int d_start, .int d_token, .int d_number, .long d_word, .int d_isWrong, .int d_saidDishes, .ref p_saidMount, .int d_saidSpeakers, .ref p_saidSpeaker, .int d_saidNoises, .ref p_saidNoise, .int d_saidAskers, .ref p_saidAsker, .ref p_room, .int d_couldBe, .int d_couldHere]))] : va_W) sz) := by
  refine Met.ofW (cc := cX6_clear) (maxL := 2) (ret := (some .int)) (by decide) rfl ?_
  intro p e s m args below meth c s₁ B hml hv
  obtain ⟨rfl, hsz, hP, hK, hD0, hN⟩ := hv
  have hx := B.exec
  have hb := B.bytes
  have hr := B.returns
  have hts := atoms_spec (ws := wsX6_clear) B.pre
  have hown : s.vm.findClass RX6 = some m.cls := findClass_of_methodNamed B.named
  have hlocks := B.notSynchronized
  subst hsz
  have hD := hD0.self (sz := s.heap.size)
  generalize hAe : va_A ([(p_this, .inr (6, [.int d_dishes, .int d_speakers, .ref p_speaker, .int d_noises, .ref p_noise, .int d_askers, .ref p_asker, .ref p_st, .ref p_images, .ref p_isKept, .long d_trace, .ref p_text, .int d_texted, .int d_cursor, .int d_start, .int d_token, .int d_number, .long d_word, .int d_isWrong, .int d_saidDishes, .ref p_saidMount, .int d_saidSpeakers, .ref p_saidSpeaker, .int d_saidNoises, .ref p_saidNoise, .int d_saidAskers, .ref p_saidAsker, .ref p_room, .int d_couldBe, .int d_couldHere]))] : va_W) s.heap.size = A at hD ⊢
  have hA : ∀ q : Nat, s.heap.size ≤ q → A q := fun q h => by rw [← hAe]; exact Or.inr h
  have hS : va_S A s.heap s.heap [] := va_S.rf
  refine W_abs (fun Q hQ => ?_)
  have hl := lv_entry ([.ref p_this]) (n := 2) (Nat.le_of_ble_eq_true rfl)
  rw [lg_entry_eq]
  generalize (lg_sl ([.ref p_this]) ++ List.replicate (2 - (lg_sl ([.ref p_this])).length) Slot.unset).toArray = ls at hl ⊢
  have hl : lv_has ls 2 [(0, .ref p_this)] := hl
  rw [f_X6_clear] at hrun
  refine W_start (ws := [(p_this, .inr (6, [.int d_dishes, .int d_speakers, .ref p_speaker, .int d_noises, .ref p_noise, .int d_askers, .ref p_asker, .ref p_st, .ref p_images, .ref p_isKept, .long d_trace, .ref p_text, .int d_texted, .int d_cursor, .int d_start, .int d_token, .int d_number, .long d_word, .int d_isWrong, .int d_saidDishes, .ref p_saidMount, .int d_saidSpeakers, .ref p_saidSpeaker, .int d_saidNoises, .ref p_saidNoise, .int d_saidAskers, .ref p_saidAsker, .ref p_room, .int d_couldBe, .int d_couldHere]))]) hP hS (fun H locs hP hS => ?_)
  have iwX6 : ∀ w ∈ wsX60, w ∈ wsX6_clear := by decide +kernel
  refine lv_aload_n hx hb dX6_clear_0 rfl (lv_at hl 0 rfl) ?_
  refine va_get (D := (dC, dI)) (ci := 6) (v := .int d_texted) (C := RX6) (T := TX6) (N := 30) hx hb hts iwX6 hown hK hP 0 rfl rfl 12 (by decide) (hts (.fieldLink RX6 58 "SkyListenersModel" "texted" "I") (by decide +kernel)) (fun _ h9 => h9) rfl dX6_clear_1 ?_
  refine lv_istore_n (lv' := [(1, .int d_texted), (0, .ref p_this)]) hx hb dX6_clear_4 rfl hl (by decide) rfl (fun ls hl => ?_)
  refine lv_aload_n hx hb dX6_clear_5 rfl (lv_at hl 1 rfl) ?_
  refine lv_iconst (v := 0) hx hb dX6_clear_6 (by decide) ?_
  refine va_put (D := (dC, dI)) (ci := 6) (v := .int 0) (ty := .int) (C := RX6) (T := TX6) (N := 30) hx hb hts iwX6 tyX6 tyX6_ok nmX6 hown hK hP hD hS 0 rfl rfl 12 (by decide) (hts (.fieldLink RX6 58 "SkyListenersModel" "texted" "I") (by decide +kernel)) (fun _ h9 => h9) rfl (by decide +kernel) rfl rfl (Nat.le_of_ble_eq_true rfl) dX6_clear_7 (fun H locs hP hD hS => ?_)
  have hP : va_P (dC, dI) vwCl [(p_this, .inr (6, [.int d_dishes, .int d_speakers, .ref p_speaker, .int d_noises, .ref p_noise, .int d_askers, .ref p_asker, .ref p_st, .ref p_images, .ref p_isKept, .long d_trace, .ref p_text, .int 0, .int d_cursor, .int d_start, .int d_token, .int d_number, .long d_word, .int d_isWrong, .int d_saidDishes, .ref p_saidMount, .int d_saidSpeakers, .ref p_saidSpeaker, .int d_saidNoises, .ref p_saidNoise, .int d_saidAskers, .ref p_saidAsker, .ref p_room, .int d_couldBe, .int d_couldHere]))] H := hP
  have hD : va_D A [(p_this, .inr (6, [.int d_dishes, .int d_speakers, .ref p_speaker, .int d_noises, .ref p_noise, .int d_askers, .ref p_asker, .ref p_st, .ref p_images, .ref p_isKept, .long d_trace, .ref p_text, .int 0, .int d_cursor, .int d_start, .int d_token, .int d_number, .long d_word, .int d_isWrong, .int d_saidDishes, .ref p_saidMount, .int d_saidSpeakers, .ref p_saidSpeaker, .int d_saidNoises, .ref p_saidNoise, .int d_saidAskers, .ref p_saidAsker, .ref p_room, .int d_couldBe, .int d_couldHere]))] := hD
  refine lv_iload_n hx hb dX6_clear_10 rfl (lv_at hl 0 rfl) ?_
  have hrun := hrun
  subst hrun
  rw [hQ]
  exact W.iret (v := d_texted) hx hb hr (fun t ht hW => ⟨⟨d_texted, (), rfl, rfl, by rw [ht]; exact hP, hD⟩, hS.F ht⟩) hS.2.2 dX6_clear_11
-- SkyListenersModel.byteAt
def f_X6_byteAt (d_texted : Int32) (d_text : Nat → Int32) (x1 : Int32) : Option (Int32) := (if d_texted ≤ x1 then (some (-1)) else (if x1 < 0 ∨ 250 ≤ x1.toNatClampNeg then none else (some (d_text x1.toNatClampNeg))))
set_option maxHeartbeats 4000000 in
set_option maxRecDepth 100000 in
theorem c_X6_byteAt (l : Launch) (dC : Nat → ClassId) (dI : Nat → Nat → Nat) (cI cZ : ClassId) (sz : Nat) (p_asker p_images p_isKept p_noise p_room p_saidAsker p_saidMount p_saidNoise p_saidSpeaker p_speaker p_st p_text p_this : Nat) (d_dishes : Int32) (d_speakers : Int32) (d_noises : Int32) (d_askers : Int32) (d_trace : Int64) (d_texted : Int32) (d_cursor : Int32) (d_start : Int32) (d_token : Int32) (d_number : Int32) (d_word : Int64) (d_isWrong : Int32) (d_saidDishes : Int32) (d_saidSpeakers : Int32) (d_saidNoises : Int32) (d_saidAskers : Int32) (d_couldBe : Int32) (d_couldHere : Int32) (d_text : Nat → Int32) (x1 : Int32) (out : Int32) (hrun : f_X6_byteAt d_texted d_text x1 = some out) : Met l yX6_byteAt wsX6_byteAt ({ frames := 0, cells := 0, slots := 0, locals := 0 } : Room) (va_Pc [.ref p_this, .int x1] (PC dC dI cI cZ sz ([(p_this, .inr (6, [.int d_dishes, .int d_speakers, .ref p_speaker, .int d_noises, .ref p_noise, .int d_askers, .ref p_asker, .ref p_st, .ref p_images, .ref p_isKept, .long d_trace, .ref p_text, .int d_texted, .int d_cursor, .int d_start, .int d_token, .int d_number, .long d_word, .int d_isWrong, .int d_saidDishes, .ref p_saidMount, .int d_saidSpeakers, .ref p_saidSpeaker, .int d_saidNoises, .ref p_saidNoise, .int d_saidAskers, .ref p_saidAsker, .ref p_room, .int d_couldBe, .int d_couldHere])), (p_text, .inl (cI, 250, .inl d_text))] : va_W))) (va_Qi (fun r (_ : Unit) => r = out) (fun _ t => va_P (dC, dI) vwCl [(p_this, .inr (6, [.int d_dishes, .int d_speakers, .ref p_speaker, .int d_noises, .ref p_noise, .int d_askers, .ref p_asker, .ref p_st, .ref p_images, .ref p_isKept, .long d_trace, .ref p_text, .int d_texted, .int d_cursor, .int d_start, .int d_token, .int d_number, .long d_word, .int d_isWrong, .int d_saidDishes, .ref p_saidMount, .int d_saidSpeakers, .ref p_saidSpeaker, .int d_saidNoises, .ref p_saidNoise, .int d_saidAskers, .ref p_saidAsker, .ref p_room, .int d_couldBe, .int d_couldHere])), (p_text, .inl (cI, 250, .inl d_text))] t.heap ∧ va_D (va_A ([(p_this, .inr (6, [.int d_dishes, .int d_speakers, .ref p_speaker, .int d_noises, .ref p_noise, .int d_askers, .ref p_asker, .ref p_st, .ref p_images, .ref p_isKept, .long d_trace, .ref p_text, .int d_texted, .int d_cursor, .int d_start, .int d_token, .int d_number, .long d_word, .int d_isWrong, .int d_saidDishes, .ref p_saidMount, .int d_saidSpeakers, .ref p_saidSpeaker, .int d_saidNoises, .ref p_saidNoise, .int d_saidAskers, .ref p_saidAsker, .ref p_room, .int d_couldBe, .int d_couldHere])), (p_text, .inl (cI, 250, .inl d_text))] : va_W) sz) [(p_this, .inr (6, [.int d_dishes, .int d_speakers, .ref p_speaker, .int d_noises, .ref p_noise, .int d_askers, .ref p_asker, .ref p_st, .ref p_images, .ref p_isKept, .long d_trace, .ref p_text, .int d_texted, .int d_cursor, .int d_start, .int d_token, .int d_number, .long d_word, .int d_isWrong, .int d_saidDishes, .ref p_saidMount, .int d_saidSpeakers, .ref p_saidSpeaker, .int d_saidNoises, .ref p_saidNoise, .int d_saidAskers, .ref p_saidAsker, .ref p_room, .int d_couldBe, .int d_couldHere])), (p_text, .inl (cI, 250, .inl d_text))]) (va_A ([(p_this, .inr (6, [.int d_dishes, .int d_speakers, .ref p_speaker, .int d_noises, .ref p_noise, .int d_askers, .ref p_asker, .ref p_st, .ref p_images, .ref p_isKept, .long d_trace, .ref p_text, .int d_texted, .int d_cursor, .int d_start, .int d_token, .int d_number, .long d_word, .int d_isWrong, .int d_saidDishes, .ref p_saidMount, .int d_saidSpeakers, .ref p_saidSpeaker, .int d_saidNoises, .ref p_saidNoise, .int d_saidAskers, .ref p_saidAsker, .ref p_room, .int d_couldBe, .int d_couldHere])), (p_text, .inl (cI, 250, .inl d_text))] : va_W) sz)) 0 0 (va_A ([(p_this, .inr (6, [.int d_dishes, .int d_speakers, .ref p_speaker, .int d_noises, .ref p_noise, .int d_askers, .ref p_asker, .ref p_st, .ref p_images, .ref p_isKept, .long d_trace, .ref p_text, .int d_texted, .int d_cursor, .int d_start, .int d_token, .int d_number, .long d_word, .int d_isWrong, .int d_saidDishes, .ref p_saidMount, .int d_saidSpeakers, .ref p_saidSpeaker, .int d_saidNoises, .ref p_saidNoise, .int d_saidAskers, .ref p_saidAsker, .ref p_room, .int d_couldBe, .int d_couldHere])), (p_text, .inl (cI, 250, .inl d_text))] : va_W) sz) := by
  refine Met.ofW (cc := cX6_byteAt) (maxL := 2) (ret := (some .int)) (by decide) rfl ?_
  intro p e s m args below meth c s₁ B hml hv
  obtain ⟨rfl, hsz, hP, hK, hD0, hN⟩ := hv
  have hx := B.exec
  have hb := B.bytes
  have hr := B.returns
  have hts := atoms_spec (ws := wsX6_byteAt) B.pre
  have hown : s.vm.findClass RX6 = some m.cls := findClass_of_methodNamed B.named
  have hlocks := B.notSynchronized
  subst hsz
  have hD := hD0.self (sz := s.heap.size)
  generalize hAe : va_A ([(p_this, .inr (6, [.int d_dishes, .int d_speakers, .ref p_speaker, .int d_noises, .ref p_noise, .int d_askers, .ref p_asker, .ref p_st, .ref p_images, .ref p_isKept, .long d_trace, .ref p_text, .int d_texted, .int d_cursor, .int d_start, .int d_token, .int d_number, .long d_word, .int d_isWrong, .int d_saidDishes, .ref p_saidMount, .int d_saidSpeakers, .ref p_saidSpeaker, .int d_saidNoises, .ref p_saidNoise, .int d_saidAskers, .ref p_saidAsker, .ref p_room, .int d_couldBe, .int d_couldHere])), (p_text, .inl (cI, 250, .inl d_text))] : va_W) s.heap.size = A at hD ⊢
  have hA : ∀ q : Nat, s.heap.size ≤ q → A q := fun q h => by rw [← hAe]; exact Or.inr h
  have hS : va_S A s.heap s.heap [] := va_S.rf
  refine W_abs (fun Q hQ => ?_)
  have hl := lv_entry ([.ref p_this, .int x1]) (n := 2) (Nat.le_of_ble_eq_true rfl)
  rw [lg_entry_eq]
  generalize (lg_sl ([.ref p_this, .int x1]) ++ List.replicate (2 - (lg_sl ([.ref p_this, .int x1])).length) Slot.unset).toArray = ls at hl ⊢
  have hl : lv_has ls 2 [(0, .ref p_this), (1, .int x1)] := hl
  rw [f_X6_byteAt] at hrun
  refine W_start (ws := [(p_this, .inr (6, [.int d_dishes, .int d_speakers, .ref p_speaker, .int d_noises, .ref p_noise, .int d_askers, .ref p_asker, .ref p_st, .ref p_images, .ref p_isKept, .long d_trace, .ref p_text, .int d_texted, .int d_cursor, .int d_start, .int d_token, .int d_number, .long d_word, .int d_isWrong, .int d_saidDishes, .ref p_saidMount, .int d_saidSpeakers, .ref p_saidSpeaker, .int d_saidNoises, .ref p_saidNoise, .int d_saidAskers, .ref p_saidAsker, .ref p_room, .int d_couldBe, .int d_couldHere])), (p_text, .inl (cI, 250, .inl d_text))]) hP hS (fun H locs hP hS => ?_)
  have iwX6 : ∀ w ∈ wsX60, w ∈ wsX6_byteAt := by decide +kernel
  refine lv_iload_n hx hb dX6_byteAt_0 rfl (lv_at hl 1 rfl) ?_
  refine lv_aload_n hx hb dX6_byteAt_1 rfl (lv_at hl 0 rfl) ?_
  refine va_get (D := (dC, dI)) (ci := 6) (v := .int d_texted) (C := RX6) (T := TX6) (N := 30) hx hb hts iwX6 hown hK hP 0 rfl rfl 12 (by decide) (hts (.fieldLink RX6 58 "SkyListenersModel" "texted" "I") (by decide +kernel)) (fun _ h9 => h9) rfl dX6_byteAt_2 ?_
  refine lv_icmp_ge (tgt := 17) hx hb dX6_byteAt_5 (by decide) (fun c_5 => ?_) (fun c_5 => ?_)
  · rw [if_pos c_5] at hrun
    refine lv_iconst (v := (-1)) hx hb dX6_byteAt_17 (by decide) ?_
    have hrun := Option.some.inj hrun
    subst hrun
    rw [hQ]
    exact W.iret (v := (-1)) hx hb hr (fun t ht hW => ⟨⟨(-1), (), rfl, rfl, by rw [ht]; exact hP, hD⟩, hS.F ht⟩) hS.2.2 dX6_byteAt_18
  · rw [if_neg c_5] at hrun
    refine lv_aload_n hx hb dX6_byteAt_8 rfl (lv_at hl 0 rfl) ?_
    refine va_get (D := (dC, dI)) (ci := 6) (v := .ref p_text) (C := RX6) (T := TX6) (N := 30) hx hb hts iwX6 hown hK hP 0 rfl rfl 11 (by decide) (hts (.fieldLink RX6 29 "SkyListenersModel" "text" "[I") (by decide +kernel)) (fun _ h9 => h9) rfl dX6_byteAt_9 ?_
    refine lv_iload_n hx hb dX6_byteAt_12 rfl (lv_at hl 1 rfl) ?_
    rcases Classical.em (x1 < 0 ∨ 250 ≤ x1.toNatClampNeg) with g_13 | g_13
    · rw [if_pos g_13] at hrun; cases hrun
    rw [if_neg g_13] at hrun
    refine va_iald hx hb hK hP 1 0 rfl rfl g_13 dX6_byteAt_13 ?_
    refine lv_goto (tgt := 18) hx hb dX6_byteAt_14 (by decide) ?_
    have hrun := Option.some.inj hrun
    subst hrun
    rw [hQ]
    exact W.iret (v := d_text x1.toNatClampNeg) hx hb hr (fun t ht hW => ⟨⟨d_text x1.toNatClampNeg, (), rfl, rfl, by rw [ht]; exact hP, hD⟩, hS.F ht⟩) hS.2.2 dX6_byteAt_18
-- SkyListenersModel.next
def f_X6_next_J292 (d_cursor : Int32) (d_start : Int32) (d_token : Int32) (d_number : Int32) (d_word : Int64) (t1 : Int32) : Option (Int32 × Int32 × Int32 × Int32 × Int64) := (some (d_cursor + 1, d_start, t1, d_number, d_word))
def f_X6_next_J274 (d_cursor : Int32) (d_start : Int32) (d_token : Int32) (d_number : Int32) (d_word : Int64) (t1 : Int32) : Option (Int32 × Int32 × Int32 × Int32 × Int64) := (some (d_cursor, d_start, t1, d_number, d_word))
def f_X6_next_X236 (x1 : Int32) (d_start : Int32) (d_token : Int32) (d_word : Int64) (d_cursor : Int32) (d_number : Int32) : Option (Int32 × Int32 × Int32 × Int32 × Int64) := (if 3 ≤ (d_cursor - d_start) then (f_X6_next_J274 d_cursor d_start d_token d_number d_word 4) else (if x1 = 48 then (if (d_cursor - d_start) = 1 then (f_X6_next_J274 d_cursor d_start d_token d_number d_word 2) else (f_X6_next_J274 d_cursor d_start d_token d_number d_word 4)) else (f_X6_next_J274 d_cursor d_start d_token d_number d_word 2)))
def f_X6_next_J220 (K162 : Int32 → Int32 → Option (Int32 × Int32 × Int32 × Int32 × Int64)) (x1 : Int32) (d_texted : Int32) (d_cursor : Int32) (d_start : Int32) (d_token : Int32) (d_number : Int32) (d_word : Int64) (d_text : Nat → Int32) (t1 : Int32) : Option (Int32 × Int32 × Int32 × Int32 × Int64) := (K162 (d_cursor + 1) t1)
def f_X6_next_L162 (K236 : Int32 → Int32 → Option (Int32 × Int32 × Int32 × Int32 × Int64)) (x1 : Int32) (d_texted : Int32) (d_start : Int32) (d_token : Int32) (d_word : Int64) (d_text : Nat → Int32) : Nat → Int32 → Int32 → Option (Int32 × Int32 × Int32 × Int32 × Int64)
  | 0, _, _ => none
  | n9 + 1, d_cursor, d_number => ((f_X6_byteAt d_texted d_text d_cursor).bind fun q167 => (if (f_X6_in q167 48 57) = 0 then (K236 d_cursor d_number) else (if 3 ≤ (d_cursor - d_start) then (f_X6_next_J220 (f_X6_next_L162 K236 x1 d_texted d_start d_token d_word d_text n9) x1 d_texted d_cursor d_start d_token d_number d_word d_text d_number) else ((f_X6_byteAt d_texted d_text d_cursor).bind fun q206 => (f_X6_next_J220 (f_X6_next_L162 K236 x1 d_texted d_start d_token d_word d_text n9) x1 d_texted d_cursor d_start d_token d_number d_word d_text (((10 * d_number) + q206) - 48))))))
def f_X6_next_J130 (K76 : Int32 → Int64 → Option (Int32 × Int32 × Int32 × Int32 × Int64)) (d_texted : Int32) (d_cursor : Int32) (d_start : Int32) (d_token : Int32) (d_number : Int32) (d_word : Int64) (d_text : Nat → Int32) (t1 : Int64) : Option (Int32 × Int32 × Int32 × Int32 × Int64) := (K76 (d_cursor + 1) t1)
def f_X6_next_L76 (d_texted : Int32) (d_start : Int32) (d_token : Int32) (d_number : Int32) (d_text : Nat → Int32) : Nat → Int32 → Int64 → Option (Int32 × Int32 × Int32 × Int32 × Int64)
  | 0, _, _ => none
  | n9 + 1, d_cursor, d_word => ((f_X6_byteAt d_texted d_text d_cursor).bind fun q81 => (if (f_X6_in q81 97 122) = 0 then (some (d_cursor, d_start, d_token, d_number, d_word)) else (if 8 ≤ (d_cursor - d_start) then (f_X6_next_J130 (f_X6_next_L76  d_texted d_start d_token d_number d_text n9) d_texted d_cursor d_start d_token d_number d_word d_text 0) else ((f_X6_byteAt d_texted d_text d_cursor).bind fun q121 => (f_X6_next_J130 (f_X6_next_L76  d_texted d_start d_token d_number d_text n9) d_texted d_cursor d_start d_token d_number d_word d_text ((d_word <<< ((8 : Int32).toInt64 &&& 63)) ||| q121.toInt64))))))
def f_X6_next_X26 (d_texted : Int32) (d_start : Int32) (d_token : Int32) (d_number : Int32) (d_word : Int64) (d_text : Nat → Int32) (d_cursor : Int32) : Option (Int32 × Int32 × Int32 × Int32 × Int64) := ((f_X6_byteAt d_texted d_text d_cursor).bind fun q39 => (if 0 ≤ q39 then (if (f_X6_in q39 97 122) = 0 then (if (f_X6_in q39 48 57) = 0 then (if q39 = 59 then (f_X6_next_J292 d_cursor d_cursor d_token d_number d_word 3) else (f_X6_next_J292 d_cursor d_cursor d_token d_number d_word 4)) else (f_X6_next_L162 (f_X6_next_X236 q39 d_cursor d_token d_word) q39 d_texted d_cursor d_token d_word d_text FU d_cursor 0)) else (f_X6_next_L76 d_texted d_cursor 1 d_number d_text FU d_cursor 0)) else (some (d_cursor, d_cursor, 0, d_number, d_word))))
def f_X6_next_L0 (K26 : Int32 → Option (Int32 × Int32 × Int32 × Int32 × Int64)) (d_texted : Int32) (d_start : Int32) (d_token : Int32) (d_number : Int32) (d_word : Int64) (d_text : Nat → Int32) : Nat → Int32 → Option (Int32 × Int32 × Int32 × Int32 × Int64)
  | 0, _ => none
  | n9 + 1, d_cursor => ((f_X6_byteAt d_texted d_text d_cursor).bind fun q5 => (if q5 = 32 then (f_X6_next_L0 K26 d_texted d_start d_token d_number d_word d_text n9 (d_cursor + 1)) else (K26 d_cursor)))
def f_X6_next (d_texted : Int32) (d_cursor : Int32) (d_start : Int32) (d_token : Int32) (d_number : Int32) (d_word : Int64) (d_text : Nat → Int32) : Option (Int32 × Int32 × Int32 × Int32 × Int64) := (f_X6_next_L0 (f_X6_next_X26 d_texted d_start d_token d_number d_word d_text) d_texted d_start d_token d_number d_word d_text FU d_cursor)
set_option maxHeartbeats 4000000 in
set_option maxRecDepth 100000 in
theorem c_X6_next (l : Launch) (dC : Nat → ClassId) (dI : Nat → Nat → Nat) (cI cZ : ClassId) (sz : Nat) (p_asker p_images p_isKept p_noise p_room p_saidAsker p_saidMount p_saidNoise p_saidSpeaker p_speaker p_st p_text p_this : Nat) (d_dishes : Int32) (d_speakers : Int32) (d_noises : Int32) (d_askers : Int32) (d_trace : Int64) (d_texted : Int32) (d_cursor : Int32) (d_start : Int32) (d_token : Int32) (d_number : Int32) (d_word : Int64) (d_isWrong : Int32) (d_saidDishes : Int32) (d_saidSpeakers : Int32) (d_saidNoises : Int32) (d_saidAskers : Int32) (d_couldBe : Int32) (d_couldHere : Int32) (d_text : Nat → Int32) (out : Int32 × Int32 × Int32 × Int32 × Int64) (hrun : f_X6_next d_texted d_cursor d_start d_token d_number d_word d_text = some out) : Met l yX6_next wsX6_next ({ frames := 1, cells := 0, slots := 0, locals := 22 } : Room) (va_Pc [.ref p_this] (PC dC dI cI cZ sz ([(p_this, .inr (6, [.int d_dishes, .int d_speakers, .ref p_speaker, .int d_noises, .ref p_noise, .int d_askers, .ref p_asker, .ref p_st, .ref p_images, .ref p_isKept, .long d_trace, .ref p_text, .int d_texted, .int d_cursor, .int d_start, .int d_token, .int d_number, .long d_word, .int d_isWrong, .int d_saidDishes, .ref p_saidMount, .int d_saidSpeakers, .ref p_saidSpeaker, .int d_saidNoises, .ref p_saidNoise, .int d_saidAskers, .ref p_saidAsker, .ref p_room, .int d_couldBe, .int d_couldHere])), (p_text, .inl (cI, 250, .inl d_text))] : va_W))) (va_Qv (fun (_ : Unit) => True) (fun _ t => va_P (dC, dI) vwCl [(p_this, .inr (6, [.int d_dishes, .int d_speakers, .ref p_speaker, .int d_noises, .ref p_noise, .int d_askers, .ref p_asker, .ref p_st, .ref p_images, .ref p_isKept, .long d_trace, .ref p_text, .int d_texted, .int out.1, .int out.2.1, .int out.2.2.1, .int out.2.2.2.1, .long out.2.2.2.2, .int d_isWrong, .int d_saidDishes, .ref p_saidMount, .int d_saidSpeakers, .ref p_saidSpeaker, .int d_saidNoises, .ref p_saidNoise, .int d_saidAskers, .ref p_saidAsker, .ref p_room, .int d_couldBe, .int d_couldHere])), (p_text, .inl (cI, 250, .inl d_text))] t.heap ∧ va_D (va_A ([(p_this, .inr (6, [.int d_dishes, .int d_speakers, .ref p_speaker, .int d_noises, .ref p_noise, .int d_askers, .ref p_asker, .ref p_st, .ref p_images, .ref p_isKept, .long d_trace, .ref p_text, .int d_texted, .int d_cursor, .int d_start, .int d_token, .int d_number, .long d_word, .int d_isWrong, .int d_saidDishes, .ref p_saidMount, .int d_saidSpeakers, .ref p_saidSpeaker, .int d_saidNoises, .ref p_saidNoise, .int d_saidAskers, .ref p_saidAsker, .ref p_room, .int d_couldBe, .int d_couldHere])), (p_text, .inl (cI, 250, .inl d_text))] : va_W) sz) [(p_this, .inr (6, [.int d_dishes, .int d_speakers, .ref p_speaker, .int d_noises, .ref p_noise, .int d_askers, .ref p_asker, .ref p_st, .ref p_images, .ref p_isKept, .long d_trace, .ref p_text, .int d_texted, .int out.1, .int out.2.1, .int out.2.2.1, .int out.2.2.2.1, .long out.2.2.2.2, .int d_isWrong, .int d_saidDishes, .ref p_saidMount, .int d_saidSpeakers, .ref p_saidSpeaker, .int d_saidNoises, .ref p_saidNoise, .int d_saidAskers, .ref p_saidAsker, .ref p_room, .int d_couldBe, .int d_couldHere])), (p_text, .inl (cI, 250, .inl d_text))]) (va_A ([(p_this, .inr (6, [.int d_dishes, .int d_speakers, .ref p_speaker, .int d_noises, .ref p_noise, .int d_askers, .ref p_asker, .ref p_st, .ref p_images, .ref p_isKept, .long d_trace, .ref p_text, .int d_texted, .int d_cursor, .int d_start, .int d_token, .int d_number, .long d_word, .int d_isWrong, .int d_saidDishes, .ref p_saidMount, .int d_saidSpeakers, .ref p_saidSpeaker, .int d_saidNoises, .ref p_saidNoise, .int d_saidAskers, .ref p_saidAsker, .ref p_room, .int d_couldBe, .int d_couldHere])), (p_text, .inl (cI, 250, .inl d_text))] : va_W) sz)) 0 0 (va_A ([(p_this, .inr (6, [.int d_dishes, .int d_speakers, .ref p_speaker, .int d_noises, .ref p_noise, .int d_askers, .ref p_asker, .ref p_st, .ref p_images, .ref p_isKept, .long d_trace, .ref p_text, .int d_texted, .int d_cursor, .int d_start, .int d_token, .int d_number, .long d_word, .int d_isWrong, .int d_saidDishes, .ref p_saidMount, .int d_saidSpeakers, .ref p_saidSpeaker, .int d_saidNoises, .ref p_saidNoise, .int d_saidAskers, .ref p_saidAsker, .ref p_room, .int d_couldBe, .int d_couldHere])), (p_text, .inl (cI, 250, .inl d_text))] : va_W) sz) := by
  refine Met.ofW (cc := cX6_next) (maxL := 2) (ret := none) (by decide) rfl ?_
  intro p e s m args below meth c s₁ B hml hv
  obtain ⟨rfl, hsz, hP, hK, hD0, hN⟩ := hv
  have hx := B.exec
  have hb := B.bytes
  have hr := B.returns
  have hts := atoms_spec (ws := wsX6_next) B.pre
  have hown : s.vm.findClass RX6 = some m.cls := findClass_of_methodNamed B.named
  have hlocks := B.notSynchronized
  subst hsz
  have hD := hD0.self (sz := s.heap.size)
  generalize hAe : va_A ([(p_this, .inr (6, [.int d_dishes, .int d_speakers, .ref p_speaker, .int d_noises, .ref p_noise, .int d_askers, .ref p_asker, .ref p_st, .ref p_images, .ref p_isKept, .long d_trace, .ref p_text, .int d_texted, .int d_cursor, .int d_start, .int d_token, .int d_number, .long d_word, .int d_isWrong, .int d_saidDishes, .ref p_saidMount, .int d_saidSpeakers, .ref p_saidSpeaker, .int d_saidNoises, .ref p_saidNoise, .int d_saidAskers, .ref p_saidAsker, .ref p_room, .int d_couldBe, .int d_couldHere])), (p_text, .inl (cI, 250, .inl d_text))] : va_W) s.heap.size = A at hD ⊢
  have hA : ∀ q : Nat, s.heap.size ≤ q → A q := fun q h => by rw [← hAe]; exact Or.inr h
  have hS : va_S A s.heap s.heap [] := va_S.rf
  refine W_abs (fun Q hQ => ?_)
  have hl := lv_entry ([.ref p_this]) (n := 2) (Nat.le_of_ble_eq_true rfl)
  rw [lg_entry_eq]
  generalize (lg_sl ([.ref p_this]) ++ List.replicate (2 - (lg_sl ([.ref p_this])).length) Slot.unset).toArray = ls at hl ⊢
  have hl : lv_has ls 2 [(0, .ref p_this)] := hl
  rw [f_X6_next] at hrun
  refine W_start (ws := [(p_this, .inr (6, [.int d_dishes, .int d_speakers, .ref p_speaker, .int d_noises, .ref p_noise, .int d_askers, .ref p_asker, .ref p_st, .ref p_images, .ref p_isKept, .long d_trace, .ref p_text, .int d_texted, .int d_cursor, .int d_start, .int d_token, .int d_number, .long d_word, .int d_isWrong, .int d_saidDishes, .ref p_saidMount, .int d_saidSpeakers, .ref p_saidSpeaker, .int d_saidNoises, .ref p_saidNoise, .int d_saidAskers, .ref p_saidAsker, .ref p_room, .int d_couldBe, .int d_couldHere])), (p_text, .inl (cI, 250, .inl d_text))]) hP hS (fun H locs hP hS => ?_)
  have iwX6 : ∀ w ∈ wsX60, w ∈ wsX6_next := by decide +kernel
  have X26 : ∀ (d_cursor_26 : Int32) (H : Heap) (locs : List Loc), va_P (dC, dI) vwCl [(p_this, .inr (6, [.int d_dishes, .int d_speakers, .ref p_speaker, .int d_noises, .ref p_noise, .int d_askers, .ref p_asker, .ref p_st, .ref p_images, .ref p_isKept, .long d_trace, .ref p_text, .int d_texted, .int d_cursor_26, .int d_start, .int d_token, .int d_number, .long d_word, .int d_isWrong, .int d_saidDishes, .ref p_saidMount, .int d_saidSpeakers, .ref p_saidSpeaker, .int d_saidNoises, .ref p_saidNoise, .int d_saidAskers, .ref p_saidAsker, .ref p_room, .int d_couldBe, .int d_couldHere])), (p_text, .inl (cI, 250, .inl d_text))] H → va_D A [(p_this, .inr (6, [.int d_dishes, .int d_speakers, .ref p_speaker, .int d_noises, .ref p_noise, .int d_askers, .ref p_asker, .ref p_st, .ref p_images, .ref p_isKept, .long d_trace, .ref p_text, .int d_texted, .int d_cursor_26, .int d_start, .int d_token, .int d_number, .long d_word, .int d_isWrong, .int d_saidDishes, .ref p_saidMount, .int d_saidSpeakers, .ref p_saidSpeaker, .int d_saidNoises, .ref p_saidNoise, .int d_saidAskers, .ref p_saidAsker, .ref p_room, .int d_couldBe, .int d_couldHere])), (p_text, .inl (cI, 250, .inl d_text))] → va_S A s.heap H locs → ∀ ls : Array Slot, lv_has ls 2 [(0, .ref p_this)] → f_X6_next_X26 d_texted d_start d_token d_number d_word d_text d_cursor_26 = some out → W p l e ({ frames := 1, cells := 0, slots := 0, locals := 22 } : Room) s m ([.ref p_this] : List Value).toArray below meth c H locs 0 0 Q (F0 m 26 ls []) := by
    intro d_cursor_26 H locs hP hD hS ls hl hrun
    rw [f_X6_next_X26] at hrun
    refine lv_aload_n hx hb dX6_next_26 rfl (lv_at hl 0 rfl) ?_
    refine lv_aload_n hx hb dX6_next_27 rfl (lv_at hl 0 rfl) ?_
    refine va_get (D := (dC, dI)) (ci := 6) (v := .int d_cursor_26) (C := RX6) (T := TX6) (N := 30) hx hb hts iwX6 hown hK hP 0 rfl rfl 13 (by decide) (hts (.fieldLink RX6 63 "SkyListenersModel" "cursor" "I") (by decide +kernel)) (fun _ h9 => h9) rfl dX6_next_28 ?_
    refine va_put (D := (dC, dI)) (ci := 6) (v := .int d_cursor_26) (ty := .int) (C := RX6) (T := TX6) (N := 30) hx hb hts iwX6 tyX6 tyX6_ok nmX6 hown hK hP hD hS 0 rfl rfl 14 (by decide) (hts (.fieldLink RX6 70 "SkyListenersModel" "start" "I") (by decide +kernel)) (fun _ h9 => h9) rfl (by decide +kernel) rfl rfl (Nat.le_of_ble_eq_true rfl) dX6_next_31 (fun H locs hP hD hS => ?_)
    have hP : va_P (dC, dI) vwCl [(p_this, .inr (6, [.int d_dishes, .int d_speakers, .ref p_speaker, .int d_noises, .ref p_noise, .int d_askers, .ref p_asker, .ref p_st, .ref p_images, .ref p_isKept, .long d_trace, .ref p_text, .int d_texted, .int d_cursor_26, .int d_cursor_26, .int d_token, .int d_number, .long d_word, .int d_isWrong, .int d_saidDishes, .ref p_saidMount, .int d_saidSpeakers, .ref p_saidSpeaker, .int d_saidNoises, .ref p_saidNoise, .int d_saidAskers, .ref p_saidAsker, .ref p_room, .int d_couldBe, .int d_couldHere])), (p_text, .inl (cI, 250, .inl d_text))] H := hP
    have hD : va_D A [(p_this, .inr (6, [.int d_dishes, .int d_speakers, .ref p_speaker, .int d_noises, .ref p_noise, .int d_askers, .ref p_asker, .ref p_st, .ref p_images, .ref p_isKept, .long d_trace, .ref p_text, .int d_texted, .int d_cursor_26, .int d_cursor_26, .int d_token, .int d_number, .long d_word, .int d_isWrong, .int d_saidDishes, .ref p_saidMount, .int d_saidSpeakers, .ref p_saidSpeaker, .int d_saidNoises, .ref p_saidNoise, .int d_saidAskers, .ref p_saidAsker, .ref p_room, .int d_couldBe, .int d_couldHere])), (p_text, .inl (cI, 250, .inl d_text))] := hD
    refine lv_aload_n hx hb dX6_next_34 rfl (lv_at hl 0 rfl) ?_
    refine lv_aload_n hx hb dX6_next_35 rfl (lv_at hl 0 rfl) ?_
    refine va_get (D := (dC, dI)) (ci := 6) (v := .int d_cursor_26) (C := RX6) (T := TX6) (N := 30) hx hb hts iwX6 hown hK hP 0 rfl rfl 13 (by decide) (hts (.fieldLink RX6 63 "SkyListenersModel" "cursor" "I") (by decide +kernel)) (fun _ h9 => h9) rfl dX6_next_36 ?_
    obtain ⟨q39, hq39, hrun⟩ := bind_out hrun
    have hPc : va_P (dC, dI) vwCl [(p_this, .inr (6, [.int d_dishes, .int d_speakers, .ref p_speaker, .int d_noises, .ref p_noise, .int d_askers, .ref p_asker, .ref p_st, .ref p_images, .ref p_isKept, .long d_trace, .ref p_text, .int d_texted, .int d_cursor_26, .int d_cursor_26, .int d_token, .int d_number, .long d_word, .int d_isWrong, .int d_saidDishes, .ref p_saidMount, .int d_saidSpeakers, .ref p_saidSpeaker, .int d_saidNoises, .ref p_saidNoise, .int d_saidAskers, .ref p_saidAsker, .ref p_room, .int d_couldBe, .int d_couldHere])), (p_text, .inl (cI, 250, .inl d_text))] H := hP.sub [0, 1] rfl
    have hDc : va_D A [(p_this, .inr (6, [.int d_dishes, .int d_speakers, .ref p_speaker, .int d_noises, .ref p_noise, .int d_askers, .ref p_asker, .ref p_st, .ref p_images, .ref p_isKept, .long d_trace, .ref p_text, .int d_texted, .int d_cursor_26, .int d_cursor_26, .int d_token, .int d_number, .long d_word, .int d_isWrong, .int d_saidDishes, .ref p_saidMount, .int d_saidSpeakers, .ref p_saidSpeaker, .int d_saidNoises, .ref p_saidNoise, .int d_saidAskers, .ref p_saidAsker, .ref p_room, .int d_couldBe, .int d_couldHere])), (p_text, .inl (cI, 250, .inl d_text))] := hD.sub [0, 1] (by decide) rfl
    have hFc := va_free (wc := [(p_this, .inr (6, [.int d_dishes, .int d_speakers, .ref p_speaker, .int d_noises, .ref p_noise, .int d_askers, .ref p_asker, .ref p_st, .ref p_images, .ref p_isKept, .long d_trace, .ref p_text, .int d_texted, .int d_cursor_26, .int d_cursor_26, .int d_token, .int d_number, .long d_word, .int d_isWrong, .int d_saidDishes, .ref p_saidMount, .int d_saidSpeakers, .ref p_saidSpeaker, .int d_saidNoises, .ref p_saidNoise, .int d_saidAskers, .ref p_saidAsker, .ref p_room, .int d_couldBe, .int d_couldHere])), (p_text, .inl (cI, 250, .inl d_text))]) hD hS hA [0, 1] rfl
    refine va_calli (va_runV (As := [.int d_cursor_26]) (rest := []) ⟨hx, hb, hml, hown, hts⟩ (c_X6_byteAt l dC dI cI cZ H.size p_asker p_images p_isKept p_noise p_room p_saidAsker p_saidMount p_saidNoise p_saidSpeaker p_speaker p_st p_text p_this d_dishes d_speakers d_noises d_askers d_trace d_texted d_cursor_26 d_cursor_26 d_token d_number d_word d_isWrong d_saidDishes d_saidSpeakers d_saidNoises d_saidAskers d_couldBe d_couldHere d_text d_cursor_26 q39 hq39) (cwV 1 hts gX6_next_X6_byteAt rfl rfl rfl (by decide +kernel) ⟨Nat.le_of_ble_eq_true rfl, Nat.le_of_ble_eq_true rfl⟩) ⟨fun a U g mk q => ⟨q.1, PC.mv q.2⟩, va_recv hK hP (ci := 6) (q0 := 0) rfl rfl, fun U hU hW => ⟨rfl, PC.of hU hW hPc hK hDc hN⟩⟩ rfl rfl hl.1 rfl (lv_room (Nat.le_of_ble_eq_true rfl)) dX6_next_39 ⟨Nat.zero_le _, Nat.zero_le _⟩) hS (fun q _ h => hFc q h) hFc (fun r_39 u t H1 locs ht hvm hw hB hz1 hk1 hS => ?_)
    obtain ⟨hP1, hD1⟩ := hB
    try dsimp only at hw
    rw [hw]
    rw [ht] at hP1
    have hP : va_P (dC, dI) vwCl [(p_this, .inr (6, [.int d_dishes, .int d_speakers, .ref p_speaker, .int d_noises, .ref p_noise, .int d_askers, .ref p_asker, .ref p_st, .ref p_images, .ref p_isKept, .long d_trace, .ref p_text, .int d_texted, .int d_cursor_26, .int d_cursor_26, .int d_token, .int d_number, .long d_word, .int d_isWrong, .int d_saidDishes, .ref p_saidMount, .int d_saidSpeakers, .ref p_saidSpeaker, .int d_saidNoises, .ref p_saidNoise, .int d_saidAskers, .ref p_saidAsker, .ref p_room, .int d_couldBe, .int d_couldHere])), (p_text, .inl (cI, 250, .inl d_text))] H1 := join_ro hP hD [0, 1] rfl hk1 hP1
    clear hPc hDc hFc hk1 hz1 hP1 hD1 ht hvm
    generalize H1 = H at hP hS ⊢
    refine lv_istore_n (lv' := [(1, .int q39), (0, .ref p_this)]) hx hb dX6_next_42 rfl hl (by decide) rfl (fun ls hl => ?_)
    refine lv_iload_n hx hb dX6_next_43 rfl (lv_at hl 0 rfl) ?_
    refine lv_if_ge (tgt := 55) hx hb dX6_next_44 (by decide) (fun c_44 => ?_) (fun c_44 => ?_)
    · rw [if_pos c_44] at hrun
      refine lv_iload_n hx hb dX6_next_55 rfl (lv_at hl 0 rfl) ?_
      refine lv_bipush (v := 97) hx hb dX6_next_56 (by decide) ?_
      refine lv_bipush (v := 122) hx hb dX6_next_58 (by decide) ?_
      have hPc : va_P (dC, dI) vwCl [] H := hP.sub [] rfl
      have hDc : va_D A [] := hD.sub [] (by decide) rfl
      have hFc := va_free (wc := []) hD hS hA [] rfl
      refine va_calli (va_runS (As := [.int q39, .int 97, .int 122]) (rest := []) ⟨hx, hb, hml, hown, hts⟩ (c_X6_in l dC dI cI cZ H.size q39 97 122 (f_X6_in q39 97 122) rfl) (va_cwS 3 hts gX6_next_X6_in rfl rfl rfl (by decide +kernel) ⟨Nat.le_of_ble_eq_true rfl, Nat.le_of_ble_eq_true rfl⟩) ⟨fun a U g mk q => ⟨q.1, PC.mv q.2⟩, fun U hU hW => ⟨rfl, PC.of hU hW hPc hK hDc hN⟩⟩ rfl rfl hl.1 rfl (lv_room (Nat.le_of_ble_eq_true rfl)) dX6_next_60 ⟨Nat.zero_le _, Nat.zero_le _⟩) hS (fun q _ h => hFc q h) hFc (fun r_60 u t H1 locs ht hvm hw hB hz1 hk1 hS => ?_)
      obtain ⟨hP1, hD1⟩ := hB
      try dsimp only at hw
      rw [hw]
      rw [ht] at hP1
      have hP : va_P (dC, dI) vwCl [(p_this, .inr (6, [.int d_dishes, .int d_speakers, .ref p_speaker, .int d_noises, .ref p_noise, .int d_askers, .ref p_asker, .ref p_st, .ref p_images, .ref p_isKept, .long d_trace, .ref p_text, .int d_texted, .int d_cursor_26, .int d_cursor_26, .int d_token, .int d_number, .long d_word, .int d_isWrong, .int d_saidDishes, .ref p_saidMount, .int d_saidSpeakers, .ref p_saidSpeaker, .int d_saidNoises, .ref p_saidNoise, .int d_saidAskers, .ref p_saidAsker, .ref p_room, .int d_couldBe, .int d_couldHere])), (p_text, .inl (cI, 250, .inl d_text))] H1 := join_ro hP hD [] rfl hk1 hP1
      clear hPc hDc hFc hk1 hz1 hP1 hD1 ht hvm
      generalize H1 = H at hP hS ⊢
      refine lv_if_eq (tgt := 146) hx hb dX6_next_63 (by decide) (fun c_63 => ?_) (fun c_63 => ?_)
      · rw [if_pos c_63] at hrun
        refine lv_iload_n hx hb dX6_next_146 rfl (lv_at hl 0 rfl) ?_
        refine lv_bipush (v := 48) hx hb dX6_next_147 (by decide) ?_
        refine lv_bipush (v := 57) hx hb dX6_next_149 (by decide) ?_
        have hPc : va_P (dC, dI) vwCl [] H := hP.sub [] rfl
        have hDc : va_D A [] := hD.sub [] (by decide) rfl
        have hFc := va_free (wc := []) hD hS hA [] rfl
        refine va_calli (va_runS (As := [.int q39, .int 48, .int 57]) (rest := []) ⟨hx, hb, hml, hown, hts⟩ (c_X6_in l dC dI cI cZ H.size q39 48 57 (f_X6_in q39 48 57) rfl) (va_cwS 3 hts gX6_next_X6_in rfl rfl rfl (by decide +kernel) ⟨Nat.le_of_ble_eq_true rfl, Nat.le_of_ble_eq_true rfl⟩) ⟨fun a U g mk q => ⟨q.1, PC.mv q.2⟩, fun U hU hW => ⟨rfl, PC.of hU hW hPc hK hDc hN⟩⟩ rfl rfl hl.1 rfl (lv_room (Nat.le_of_ble_eq_true rfl)) dX6_next_151 ⟨Nat.zero_le _, Nat.zero_le _⟩) hS (fun q _ h => hFc q h) hFc (fun r_151 u t H1 locs ht hvm hw hB hz1 hk1 hS => ?_)
        obtain ⟨hP1, hD1⟩ := hB
        try dsimp only at hw
        rw [hw]
        rw [ht] at hP1
        have hP : va_P (dC, dI) vwCl [(p_this, .inr (6, [.int d_dishes, .int d_speakers, .ref p_speaker, .int d_noises, .ref p_noise, .int d_askers, .ref p_asker, .ref p_st, .ref p_images, .ref p_isKept, .long d_trace, .ref p_text, .int d_texted, .int d_cursor_26, .int d_cursor_26, .int d_token, .int d_number, .long d_word, .int d_isWrong, .int d_saidDishes, .ref p_saidMount, .int d_saidSpeakers, .ref p_saidSpeaker, .int d_saidNoises, .ref p_saidNoise, .int d_saidAskers, .ref p_saidAsker, .ref p_room, .int d_couldBe, .int d_couldHere])), (p_text, .inl (cI, 250, .inl d_text))] H1 := join_ro hP hD [] rfl hk1 hP1
        clear hPc hDc hFc hk1 hz1 hP1 hD1 ht hvm
        generalize H1 = H at hP hS ⊢
        refine lv_if_eq (tgt := 280) hx hb dX6_next_154 (by decide) (fun c_154 => ?_) (fun c_154 => ?_)
        · rw [if_pos c_154] at hrun
          refine lv_aload_n hx hb dX6_next_280 rfl (lv_at hl 1 rfl) ?_
          refine lv_iload_n hx hb dX6_next_281 rfl (lv_at hl 0 rfl) ?_
          refine lv_bipush (v := 59) hx hb dX6_next_282 (by decide) ?_
          have J292 : ∀ (t1_292 : Int32) (H : Heap) (locs : List Loc), va_P (dC, dI) vwCl [(p_this, .inr (6, [.int d_dishes, .int d_speakers, .ref p_speaker, .int d_noises, .ref p_noise, .int d_askers, .ref p_asker, .ref p_st, .ref p_images, .ref p_isKept, .long d_trace, .ref p_text, .int d_texted, .int d_cursor_26, .int d_cursor_26, .int d_token, .int d_number, .long d_word, .int d_isWrong, .int d_saidDishes, .ref p_saidMount, .int d_saidSpeakers, .ref p_saidSpeaker, .int d_saidNoises, .ref p_saidNoise, .int d_saidAskers, .ref p_saidAsker, .ref p_room, .int d_couldBe, .int d_couldHere])), (p_text, .inl (cI, 250, .inl d_text))] H → va_D A [(p_this, .inr (6, [.int d_dishes, .int d_speakers, .ref p_speaker, .int d_noises, .ref p_noise, .int d_askers, .ref p_asker, .ref p_st, .ref p_images, .ref p_isKept, .long d_trace, .ref p_text, .int d_texted, .int d_cursor_26, .int d_cursor_26, .int d_token, .int d_number, .long d_word, .int d_isWrong, .int d_saidDishes, .ref p_saidMount, .int d_saidSpeakers, .ref p_saidSpeaker, .int d_saidNoises, .ref p_saidNoise, .int d_saidAskers, .ref p_saidAsker, .ref p_room, .int d_couldBe, .int d_couldHere])), (p_text, .inl (cI, 250, .inl d_text))] → va_S A s.heap H locs → ∀ ls : Array Slot, lv_has ls 2 [(0, .ref p_this)] → f_X6_next_J292 d_cursor_26 d_cursor_26 d_token d_number d_word t1_292 = some out → W p l e ({ frames := 1, cells := 0, slots := 0, locals := 22 } : Room) s m ([.ref p_this] : List Value).toArray below meth c H locs 0 0 Q (F0 m 292 ls [.int t1_292, .ref p_this]) := by
            intro t1_292 H locs hP hD hS ls hl hrun
            rw [f_X6_next_J292] at hrun
            refine va_put (D := (dC, dI)) (ci := 6) (v := .int t1_292) (ty := .int) (C := RX6) (T := TX6) (N := 30) hx hb hts iwX6 tyX6 tyX6_ok nmX6 hown hK hP hD hS 0 rfl rfl 15 (by decide) (hts (.fieldLink RX6 73 "SkyListenersModel" "token" "I") (by decide +kernel)) (fun _ h9 => h9) rfl (by decide +kernel) rfl rfl (Nat.le_of_ble_eq_true rfl) dX6_next_292 (fun H locs hP hD hS => ?_)
            have hP : va_P (dC, dI) vwCl [(p_this, .inr (6, [.int d_dishes, .int d_speakers, .ref p_speaker, .int d_noises, .ref p_noise, .int d_askers, .ref p_asker, .ref p_st, .ref p_images, .ref p_isKept, .long d_trace, .ref p_text, .int d_texted, .int d_cursor_26, .int d_cursor_26, .int t1_292, .int d_number, .long d_word, .int d_isWrong, .int d_saidDishes, .ref p_saidMount, .int d_saidSpeakers, .ref p_saidSpeaker, .int d_saidNoises, .ref p_saidNoise, .int d_saidAskers, .ref p_saidAsker, .ref p_room, .int d_couldBe, .int d_couldHere])), (p_text, .inl (cI, 250, .inl d_text))] H := hP
            have hD : va_D A [(p_this, .inr (6, [.int d_dishes, .int d_speakers, .ref p_speaker, .int d_noises, .ref p_noise, .int d_askers, .ref p_asker, .ref p_st, .ref p_images, .ref p_isKept, .long d_trace, .ref p_text, .int d_texted, .int d_cursor_26, .int d_cursor_26, .int t1_292, .int d_number, .long d_word, .int d_isWrong, .int d_saidDishes, .ref p_saidMount, .int d_saidSpeakers, .ref p_saidSpeaker, .int d_saidNoises, .ref p_saidNoise, .int d_saidAskers, .ref p_saidAsker, .ref p_room, .int d_couldBe, .int d_couldHere])), (p_text, .inl (cI, 250, .inl d_text))] := hD
            refine lv_aload_n hx hb dX6_next_295 rfl (lv_at hl 0 rfl) ?_
            refine lv_dup hx hb dX6_next_296 rfl ?_
            refine va_get (D := (dC, dI)) (ci := 6) (v := .int d_cursor_26) (C := RX6) (T := TX6) (N := 30) hx hb hts iwX6 hown hK hP 0 rfl rfl 13 (by decide) (hts (.fieldLink RX6 63 "SkyListenersModel" "cursor" "I") (by decide +kernel)) (fun _ h9 => h9) rfl dX6_next_297 ?_
            refine lv_iconst (v := 1) hx hb dX6_next_300 (by decide) ?_
            refine lv_iadd hx hb dX6_next_301 ?_
            refine va_put (D := (dC, dI)) (ci := 6) (v := .int (d_cursor_26 + 1)) (ty := .int) (C := RX6) (T := TX6) (N := 30) hx hb hts iwX6 tyX6 tyX6_ok nmX6 hown hK hP hD hS 0 rfl rfl 13 (by decide) (hts (.fieldLink RX6 63 "SkyListenersModel" "cursor" "I") (by decide +kernel)) (fun _ h9 => h9) rfl (by decide +kernel) rfl rfl (Nat.le_of_ble_eq_true rfl) dX6_next_302 (fun H locs hP hD hS => ?_)
            have hP : va_P (dC, dI) vwCl [(p_this, .inr (6, [.int d_dishes, .int d_speakers, .ref p_speaker, .int d_noises, .ref p_noise, .int d_askers, .ref p_asker, .ref p_st, .ref p_images, .ref p_isKept, .long d_trace, .ref p_text, .int d_texted, .int (d_cursor_26 + 1), .int d_cursor_26, .int t1_292, .int d_number, .long d_word, .int d_isWrong, .int d_saidDishes, .ref p_saidMount, .int d_saidSpeakers, .ref p_saidSpeaker, .int d_saidNoises, .ref p_saidNoise, .int d_saidAskers, .ref p_saidAsker, .ref p_room, .int d_couldBe, .int d_couldHere])), (p_text, .inl (cI, 250, .inl d_text))] H := hP
            have hD : va_D A [(p_this, .inr (6, [.int d_dishes, .int d_speakers, .ref p_speaker, .int d_noises, .ref p_noise, .int d_askers, .ref p_asker, .ref p_st, .ref p_images, .ref p_isKept, .long d_trace, .ref p_text, .int d_texted, .int (d_cursor_26 + 1), .int d_cursor_26, .int t1_292, .int d_number, .long d_word, .int d_isWrong, .int d_saidDishes, .ref p_saidMount, .int d_saidSpeakers, .ref p_saidSpeaker, .int d_saidNoises, .ref p_saidNoise, .int d_saidAskers, .ref p_saidAsker, .ref p_room, .int d_couldBe, .int d_couldHere])), (p_text, .inl (cI, 250, .inl d_text))] := hD
            have hrun := Option.some.inj hrun
            subst hrun
            rw [hQ]
            exact W.vret hx hb hr (fun t ht hW => ⟨⟨(), rfl, trivial, by rw [ht]; exact hP, hD⟩, hS.F ht⟩) hS.2.2 dX6_next_305
          refine lv_icmp_ne (tgt := 291) hx hb dX6_next_284 (by decide) (fun c_284 => ?_) (fun c_284 => ?_)
          · rw [if_neg c_284] at hrun
            refine lv_iconst (v := 4) hx hb dX6_next_291 (by decide) ?_
            exact J292 4 H locs hP hD hS ls (lv_sub hl [1] rfl) hrun
          · rw [if_pos c_284] at hrun
            refine lv_iconst (v := 3) hx hb dX6_next_287 (by decide) ?_
            refine lv_goto (tgt := 292) hx hb dX6_next_288 (by decide) ?_
            exact J292 3 H locs hP hD hS ls (lv_sub hl [1] rfl) hrun
        · rw [if_neg c_154] at hrun
          refine lv_aload_n hx hb dX6_next_157 rfl (lv_at hl 1 rfl) ?_
          refine lv_iconst (v := 0) hx hb dX6_next_158 (by decide) ?_
          refine va_put (D := (dC, dI)) (ci := 6) (v := .int 0) (ty := .int) (C := RX6) (T := TX6) (N := 30) hx hb hts iwX6 tyX6 tyX6_ok nmX6 hown hK hP hD hS 0 rfl rfl 16 (by decide) (hts (.fieldLink RX6 80 "SkyListenersModel" "number" "I") (by decide +kernel)) (fun _ h9 => h9) rfl (by decide +kernel) rfl rfl (Nat.le_of_ble_eq_true rfl) dX6_next_159 (fun H locs hP hD hS => ?_)
          have hP : va_P (dC, dI) vwCl [(p_this, .inr (6, [.int d_dishes, .int d_speakers, .ref p_speaker, .int d_noises, .ref p_noise, .int d_askers, .ref p_asker, .ref p_st, .ref p_images, .ref p_isKept, .long d_trace, .ref p_text, .int d_texted, .int d_cursor_26, .int d_cursor_26, .int d_token, .int 0, .long d_word, .int d_isWrong, .int d_saidDishes, .ref p_saidMount, .int d_saidSpeakers, .ref p_saidSpeaker, .int d_saidNoises, .ref p_saidNoise, .int d_saidAskers, .ref p_saidAsker, .ref p_room, .int d_couldBe, .int d_couldHere])), (p_text, .inl (cI, 250, .inl d_text))] H := hP
          have hD : va_D A [(p_this, .inr (6, [.int d_dishes, .int d_speakers, .ref p_speaker, .int d_noises, .ref p_noise, .int d_askers, .ref p_asker, .ref p_st, .ref p_images, .ref p_isKept, .long d_trace, .ref p_text, .int d_texted, .int d_cursor_26, .int d_cursor_26, .int d_token, .int 0, .long d_word, .int d_isWrong, .int d_saidDishes, .ref p_saidMount, .int d_saidSpeakers, .ref p_saidSpeaker, .int d_saidNoises, .ref p_saidNoise, .int d_saidAskers, .ref p_saidAsker, .ref p_room, .int d_couldBe, .int d_couldHere])), (p_text, .inl (cI, 250, .inl d_text))] := hD
          have X236 : ∀ (d_cursor_236 : Int32) (d_number_236 : Int32) (H : Heap) (locs : List Loc), va_P (dC, dI) vwCl [(p_this, .inr (6, [.int d_dishes, .int d_speakers, .ref p_speaker, .int d_noises, .ref p_noise, .int d_askers, .ref p_asker, .ref p_st, .ref p_images, .ref p_isKept, .long d_trace, .ref p_text, .int d_texted, .int d_cursor_236, .int d_cursor_26, .int d_token, .int d_number_236, .long d_word, .int d_isWrong, .int d_saidDishes, .ref p_saidMount, .int d_saidSpeakers, .ref p_saidSpeaker, .int d_saidNoises, .ref p_saidNoise, .int d_saidAskers, .ref p_saidAsker, .ref p_room, .int d_couldBe, .int d_couldHere])), (p_text, .inl (cI, 250, .inl d_text))] H → va_D A [(p_this, .inr (6, [.int d_dishes, .int d_speakers, .ref p_speaker, .int d_noises, .ref p_noise, .int d_askers, .ref p_asker, .ref p_st, .ref p_images, .ref p_isKept, .long d_trace, .ref p_text, .int d_texted, .int d_cursor_236, .int d_cursor_26, .int d_token, .int d_number_236, .long d_word, .int d_isWrong, .int d_saidDishes, .ref p_saidMount, .int d_saidSpeakers, .ref p_saidSpeaker, .int d_saidNoises, .ref p_saidNoise, .int d_saidAskers, .ref p_saidAsker, .ref p_room, .int d_couldBe, .int d_couldHere])), (p_text, .inl (cI, 250, .inl d_text))] → va_S A s.heap H locs → ∀ ls : Array Slot, lv_has ls 2 [(0, .ref p_this), (1, .int q39)] → f_X6_next_X236 q39 d_cursor_26 d_token d_word d_cursor_236 d_number_236 = some out → W p l e ({ frames := 1, cells := 0, slots := 0, locals := 22 } : Room) s m ([.ref p_this] : List Value).toArray below meth c H locs 0 0 Q (F0 m 236 ls []) := by
            intro d_cursor_236 d_number_236 H locs hP hD hS ls hl hrun
            rw [f_X6_next_X236] at hrun
            refine lv_aload_n hx hb dX6_next_236 rfl (lv_at hl 0 rfl) ?_
            refine lv_aload_n hx hb dX6_next_237 rfl (lv_at hl 0 rfl) ?_
            refine va_get (D := (dC, dI)) (ci := 6) (v := .int d_cursor_236) (C := RX6) (T := TX6) (N := 30) hx hb hts iwX6 hown hK hP 0 rfl rfl 13 (by decide) (hts (.fieldLink RX6 63 "SkyListenersModel" "cursor" "I") (by decide +kernel)) (fun _ h9 => h9) rfl dX6_next_238 ?_
            refine lv_aload_n hx hb dX6_next_241 rfl (lv_at hl 0 rfl) ?_
            refine va_get (D := (dC, dI)) (ci := 6) (v := .int d_cursor_26) (C := RX6) (T := TX6) (N := 30) hx hb hts iwX6 hown hK hP 0 rfl rfl 14 (by decide) (hts (.fieldLink RX6 70 "SkyListenersModel" "start" "I") (by decide +kernel)) (fun _ h9 => h9) rfl dX6_next_242 ?_
            refine lv_isub hx hb dX6_next_245 ?_
            refine lv_iconst (v := 3) hx hb dX6_next_246 (by decide) ?_
            have J274 : ∀ (t1_274 : Int32) (H : Heap) (locs : List Loc), va_P (dC, dI) vwCl [(p_this, .inr (6, [.int d_dishes, .int d_speakers, .ref p_speaker, .int d_noises, .ref p_noise, .int d_askers, .ref p_asker, .ref p_st, .ref p_images, .ref p_isKept, .long d_trace, .ref p_text, .int d_texted, .int d_cursor_236, .int d_cursor_26, .int d_token, .int d_number_236, .long d_word, .int d_isWrong, .int d_saidDishes, .ref p_saidMount, .int d_saidSpeakers, .ref p_saidSpeaker, .int d_saidNoises, .ref p_saidNoise, .int d_saidAskers, .ref p_saidAsker, .ref p_room, .int d_couldBe, .int d_couldHere])), (p_text, .inl (cI, 250, .inl d_text))] H → va_D A [(p_this, .inr (6, [.int d_dishes, .int d_speakers, .ref p_speaker, .int d_noises, .ref p_noise, .int d_askers, .ref p_asker, .ref p_st, .ref p_images, .ref p_isKept, .long d_trace, .ref p_text, .int d_texted, .int d_cursor_236, .int d_cursor_26, .int d_token, .int d_number_236, .long d_word, .int d_isWrong, .int d_saidDishes, .ref p_saidMount, .int d_saidSpeakers, .ref p_saidSpeaker, .int d_saidNoises, .ref p_saidNoise, .int d_saidAskers, .ref p_saidAsker, .ref p_room, .int d_couldBe, .int d_couldHere])), (p_text, .inl (cI, 250, .inl d_text))] → va_S A s.heap H locs → ∀ ls : Array Slot, lv_has ls 2 [] → f_X6_next_J274 d_cursor_236 d_cursor_26 d_token d_number_236 d_word t1_274 = some out → W p l e ({ frames := 1, cells := 0, slots := 0, locals := 22 } : Room) s m ([.ref p_this] : List Value).toArray below meth c H locs 0 0 Q (F0 m 274 ls [.int t1_274, .ref p_this]) := by
              intro t1_274 H locs hP hD hS ls hl hrun
              rw [f_X6_next_J274] at hrun
              refine va_put (D := (dC, dI)) (ci := 6) (v := .int t1_274) (ty := .int) (C := RX6) (T := TX6) (N := 30) hx hb hts iwX6 tyX6 tyX6_ok nmX6 hown hK hP hD hS 0 rfl rfl 15 (by decide) (hts (.fieldLink RX6 73 "SkyListenersModel" "token" "I") (by decide +kernel)) (fun _ h9 => h9) rfl (by decide +kernel) rfl rfl (Nat.le_of_ble_eq_true rfl) dX6_next_274 (fun H locs hP hD hS => ?_)
              have hP : va_P (dC, dI) vwCl [(p_this, .inr (6, [.int d_dishes, .int d_speakers, .ref p_speaker, .int d_noises, .ref p_noise, .int d_askers, .ref p_asker, .ref p_st, .ref p_images, .ref p_isKept, .long d_trace, .ref p_text, .int d_texted, .int d_cursor_236, .int d_cursor_26, .int t1_274, .int d_number_236, .long d_word, .int d_isWrong, .int d_saidDishes, .ref p_saidMount, .int d_saidSpeakers, .ref p_saidSpeaker, .int d_saidNoises, .ref p_saidNoise, .int d_saidAskers, .ref p_saidAsker, .ref p_room, .int d_couldBe, .int d_couldHere])), (p_text, .inl (cI, 250, .inl d_text))] H := hP
              have hD : va_D A [(p_this, .inr (6, [.int d_dishes, .int d_speakers, .ref p_speaker, .int d_noises, .ref p_noise, .int d_askers, .ref p_asker, .ref p_st, .ref p_images, .ref p_isKept, .long d_trace, .ref p_text, .int d_texted, .int d_cursor_236, .int d_cursor_26, .int t1_274, .int d_number_236, .long d_word, .int d_isWrong, .int d_saidDishes, .ref p_saidMount, .int d_saidSpeakers, .ref p_saidSpeaker, .int d_saidNoises, .ref p_saidNoise, .int d_saidAskers, .ref p_saidAsker, .ref p_room, .int d_couldBe, .int d_couldHere])), (p_text, .inl (cI, 250, .inl d_text))] := hD
              refine lv_goto (tgt := 305) hx hb dX6_next_277 (by decide) ?_
              have hrun := Option.some.inj hrun
              subst hrun
              rw [hQ]
              exact W.vret hx hb hr (fun t ht hW => ⟨⟨(), rfl, trivial, by rw [ht]; exact hP, hD⟩, hS.F ht⟩) hS.2.2 dX6_next_305
            refine lv_icmp_ge (tgt := 273) hx hb dX6_next_247 (by decide) (fun c_247 => ?_) (fun c_247 => ?_)
            · rw [if_pos c_247] at hrun
              refine lv_iconst (v := 4) hx hb dX6_next_273 (by decide) ?_
              exact J274 4 H locs hP hD hS ls (lv_sub hl [] rfl) hrun
            · rw [if_neg c_247] at hrun
              refine lv_iload_n hx hb dX6_next_250 rfl (lv_at hl 1 rfl) ?_
              refine lv_bipush (v := 48) hx hb dX6_next_251 (by decide) ?_
              refine lv_icmp_ne (tgt := 269) hx hb dX6_next_253 (by decide) (fun c_253 => ?_) (fun c_253 => ?_)
              · rw [if_neg c_253] at hrun
                refine lv_iconst (v := 2) hx hb dX6_next_269 (by decide) ?_
                refine lv_goto (tgt := 274) hx hb dX6_next_270 (by decide) ?_
                exact J274 2 H locs hP hD hS ls (lv_sub hl [] rfl) hrun
              · rw [if_pos c_253] at hrun
                refine lv_aload_n hx hb dX6_next_256 rfl (lv_at hl 0 rfl) ?_
                refine va_get (D := (dC, dI)) (ci := 6) (v := .int d_cursor_236) (C := RX6) (T := TX6) (N := 30) hx hb hts iwX6 hown hK hP 0 rfl rfl 13 (by decide) (hts (.fieldLink RX6 63 "SkyListenersModel" "cursor" "I") (by decide +kernel)) (fun _ h9 => h9) rfl dX6_next_257 ?_
                refine lv_aload_n hx hb dX6_next_260 rfl (lv_at hl 0 rfl) ?_
                refine va_get (D := (dC, dI)) (ci := 6) (v := .int d_cursor_26) (C := RX6) (T := TX6) (N := 30) hx hb hts iwX6 hown hK hP 0 rfl rfl 14 (by decide) (hts (.fieldLink RX6 70 "SkyListenersModel" "start" "I") (by decide +kernel)) (fun _ h9 => h9) rfl dX6_next_261 ?_
                refine lv_isub hx hb dX6_next_264 ?_
                refine lv_iconst (v := 1) hx hb dX6_next_265 (by decide) ?_
                refine lv_icmp_ne (tgt := 273) hx hb dX6_next_266 (by decide) (fun c_266 => ?_) (fun c_266 => ?_)
                · rw [if_neg c_266] at hrun
                  refine lv_iconst (v := 4) hx hb dX6_next_273 (by decide) ?_
                  exact J274 4 H locs hP hD hS ls (lv_sub hl [] rfl) hrun
                · rw [if_pos c_266] at hrun
                  refine lv_iconst (v := 2) hx hb dX6_next_269 (by decide) ?_
                  refine lv_goto (tgt := 274) hx hb dX6_next_270 (by decide) ?_
                  exact J274 2 H locs hP hD hS ls (lv_sub hl [] rfl) hrun
          have L162 : ∀ (n9_162 : Nat) (d_cursor_162 : Int32) (d_number_162 : Int32) (H : Heap) (locs : List Loc), va_P (dC, dI) vwCl [(p_this, .inr (6, [.int d_dishes, .int d_speakers, .ref p_speaker, .int d_noises, .ref p_noise, .int d_askers, .ref p_asker, .ref p_st, .ref p_images, .ref p_isKept, .long d_trace, .ref p_text, .int d_texted, .int d_cursor_162, .int d_cursor_26, .int d_token, .int d_number_162, .long d_word, .int d_isWrong, .int d_saidDishes, .ref p_saidMount, .int d_saidSpeakers, .ref p_saidSpeaker, .int d_saidNoises, .ref p_saidNoise, .int d_saidAskers, .ref p_saidAsker, .ref p_room, .int d_couldBe, .int d_couldHere])), (p_text, .inl (cI, 250, .inl d_text))] H → va_D A [(p_this, .inr (6, [.int d_dishes, .int d_speakers, .ref p_speaker, .int d_noises, .ref p_noise, .int d_askers, .ref p_asker, .ref p_st, .ref p_images, .ref p_isKept, .long d_trace, .ref p_text, .int d_texted, .int d_cursor_162, .int d_cursor_26, .int d_token, .int d_number_162, .long d_word, .int d_isWrong, .int d_saidDishes, .ref p_saidMount, .int d_saidSpeakers, .ref p_saidSpeaker, .int d_saidNoises, .ref p_saidNoise, .int d_saidAskers, .ref p_saidAsker, .ref p_room, .int d_couldBe, .int d_couldHere])), (p_text, .inl (cI, 250, .inl d_text))] → va_S A s.heap H locs → ∀ ls : Array Slot, lv_has ls 2 [(0, .ref p_this), (1, .int q39)] → f_X6_next_L162 (f_X6_next_X236 q39 d_cursor_26 d_token d_word) q39 d_texted d_cursor_26 d_token d_word d_text n9_162 d_cursor_162 d_number_162 = some out → W p l e ({ frames := 1, cells := 0, slots := 0, locals := 22 } : Room) s m ([.ref p_this] : List Value).toArray below meth c H locs 0 0 Q (F0 m 162 ls []) := by
            intro n9_162
            induction n9_162 with
            | zero =>
              intro d_cursor_162 d_number_162 H locs hP hD hS ls hl hrun
              rw [f_X6_next_L162] at hrun
              cases hrun
            | succ n9_162 ih162 =>
              intro d_cursor_162 d_number_162 H locs hP hD hS ls hl hrun
              rw [f_X6_next_L162] at hrun
              refine lv_aload_n hx hb dX6_next_162 rfl (lv_at hl 0 rfl) ?_
              refine lv_aload_n hx hb dX6_next_163 rfl (lv_at hl 0 rfl) ?_
              refine va_get (D := (dC, dI)) (ci := 6) (v := .int d_cursor_162) (C := RX6) (T := TX6) (N := 30) hx hb hts iwX6 hown hK hP 0 rfl rfl 13 (by decide) (hts (.fieldLink RX6 63 "SkyListenersModel" "cursor" "I") (by decide +kernel)) (fun _ h9 => h9) rfl dX6_next_164 ?_
              obtain ⟨q167, hq167, hrun⟩ := bind_out hrun
              have hPc : va_P (dC, dI) vwCl [(p_this, .inr (6, [.int d_dishes, .int d_speakers, .ref p_speaker, .int d_noises, .ref p_noise, .int d_askers, .ref p_asker, .ref p_st, .ref p_images, .ref p_isKept, .long d_trace, .ref p_text, .int d_texted, .int d_cursor_162, .int d_cursor_26, .int d_token, .int d_number_162, .long d_word, .int d_isWrong, .int d_saidDishes, .ref p_saidMount, .int d_saidSpeakers, .ref p_saidSpeaker, .int d_saidNoises, .ref p_saidNoise, .int d_saidAskers, .ref p_saidAsker, .ref p_room, .int d_couldBe, .int d_couldHere])), (p_text, .inl (cI, 250, .inl d_text))] H := hP.sub [0, 1] rfl
              have hDc : va_D A [(p_this, .inr (6, [.int d_dishes, .int d_speakers, .ref p_speaker, .int d_noises, .ref p_noise, .int d_askers, .ref p_asker, .ref p_st, .ref p_images, .ref p_isKept, .long d_trace, .ref p_text, .int d_texted, .int d_cursor_162, .int d_cursor_26, .int d_token, .int d_number_162, .long d_word, .int d_isWrong, .int d_saidDishes, .ref p_saidMount, .int d_saidSpeakers, .ref p_saidSpeaker, .int d_saidNoises, .ref p_saidNoise, .int d_saidAskers, .ref p_saidAsker, .ref p_room, .int d_couldBe, .int d_couldHere])), (p_text, .inl (cI, 250, .inl d_text))] := hD.sub [0, 1] (by decide) rfl
              have hFc := va_free (wc := [(p_this, .inr (6, [.int d_dishes, .int d_speakers, .ref p_speaker, .int d_noises, .ref p_noise, .int d_askers, .ref p_asker, .ref p_st, .ref p_images, .ref p_isKept, .long d_trace, .ref p_text, .int d_texted, .int d_cursor_162, .int d_cursor_26, .int d_token, .int d_number_162, .long d_word, .int d_isWrong, .int d_saidDishes, .ref p_saidMount, .int d_saidSpeakers, .ref p_saidSpeaker, .int d_saidNoises, .ref p_saidNoise, .int d_saidAskers, .ref p_saidAsker, .ref p_room, .int d_couldBe, .int d_couldHere])), (p_text, .inl (cI, 250, .inl d_text))]) hD hS hA [0, 1] rfl
              refine va_calli (va_runV (As := [.int d_cursor_162]) (rest := []) ⟨hx, hb, hml, hown, hts⟩ (c_X6_byteAt l dC dI cI cZ H.size p_asker p_images p_isKept p_noise p_room p_saidAsker p_saidMount p_saidNoise p_saidSpeaker p_speaker p_st p_text p_this d_dishes d_speakers d_noises d_askers d_trace d_texted d_cursor_162 d_cursor_26 d_token d_number_162 d_word d_isWrong d_saidDishes d_saidSpeakers d_saidNoises d_saidAskers d_couldBe d_couldHere d_text d_cursor_162 q167 hq167) (cwV 1 hts gX6_next_X6_byteAt rfl rfl rfl (by decide +kernel) ⟨Nat.le_of_ble_eq_true rfl, Nat.le_of_ble_eq_true rfl⟩) ⟨fun a U g mk q => ⟨q.1, PC.mv q.2⟩, va_recv hK hP (ci := 6) (q0 := 0) rfl rfl, fun U hU hW => ⟨rfl, PC.of hU hW hPc hK hDc hN⟩⟩ rfl rfl hl.1 rfl (lv_room (Nat.le_of_ble_eq_true rfl)) dX6_next_167 ⟨Nat.zero_le _, Nat.zero_le _⟩) hS (fun q _ h => hFc q h) hFc (fun r_167 u t H1 locs ht hvm hw hB hz1 hk1 hS => ?_)
              obtain ⟨hP1, hD1⟩ := hB
              try dsimp only at hw
              rw [hw]
              rw [ht] at hP1
              have hP : va_P (dC, dI) vwCl [(p_this, .inr (6, [.int d_dishes, .int d_speakers, .ref p_speaker, .int d_noises, .ref p_noise, .int d_askers, .ref p_asker, .ref p_st, .ref p_images, .ref p_isKept, .long d_trace, .ref p_text, .int d_texted, .int d_cursor_162, .int d_cursor_26, .int d_token, .int d_number_162, .long d_word, .int d_isWrong, .int d_saidDishes, .ref p_saidMount, .int d_saidSpeakers, .ref p_saidSpeaker, .int d_saidNoises, .ref p_saidNoise, .int d_saidAskers, .ref p_saidAsker, .ref p_room, .int d_couldBe, .int d_couldHere])), (p_text, .inl (cI, 250, .inl d_text))] H1 := join_ro hP hD [0, 1] rfl hk1 hP1
              clear hPc hDc hFc hk1 hz1 hP1 hD1 ht hvm
              generalize H1 = H at hP hS ⊢
              refine lv_bipush (v := 48) hx hb dX6_next_170 (by decide) ?_
              refine lv_bipush (v := 57) hx hb dX6_next_172 (by decide) ?_
              have hPc : va_P (dC, dI) vwCl [] H := hP.sub [] rfl
              have hDc : va_D A [] := hD.sub [] (by decide) rfl
              have hFc := va_free (wc := []) hD hS hA [] rfl
              refine va_calli (va_runS (As := [.int q167, .int 48, .int 57]) (rest := []) ⟨hx, hb, hml, hown, hts⟩ (c_X6_in l dC dI cI cZ H.size q167 48 57 (f_X6_in q167 48 57) rfl) (va_cwS 3 hts gX6_next_X6_in rfl rfl rfl (by decide +kernel) ⟨Nat.le_of_ble_eq_true rfl, Nat.le_of_ble_eq_true rfl⟩) ⟨fun a U g mk q => ⟨q.1, PC.mv q.2⟩, fun U hU hW => ⟨rfl, PC.of hU hW hPc hK hDc hN⟩⟩ rfl rfl hl.1 rfl (lv_room (Nat.le_of_ble_eq_true rfl)) dX6_next_174 ⟨Nat.zero_le _, Nat.zero_le _⟩) hS (fun q _ h => hFc q h) hFc (fun r_174 u t H1 locs ht hvm hw hB hz1 hk1 hS => ?_)
              obtain ⟨hP1, hD1⟩ := hB
              try dsimp only at hw
              rw [hw]
              rw [ht] at hP1
              have hP : va_P (dC, dI) vwCl [(p_this, .inr (6, [.int d_dishes, .int d_speakers, .ref p_speaker, .int d_noises, .ref p_noise, .int d_askers, .ref p_asker, .ref p_st, .ref p_images, .ref p_isKept, .long d_trace, .ref p_text, .int d_texted, .int d_cursor_162, .int d_cursor_26, .int d_token, .int d_number_162, .long d_word, .int d_isWrong, .int d_saidDishes, .ref p_saidMount, .int d_saidSpeakers, .ref p_saidSpeaker, .int d_saidNoises, .ref p_saidNoise, .int d_saidAskers, .ref p_saidAsker, .ref p_room, .int d_couldBe, .int d_couldHere])), (p_text, .inl (cI, 250, .inl d_text))] H1 := join_ro hP hD [] rfl hk1 hP1
              clear hPc hDc hFc hk1 hz1 hP1 hD1 ht hvm
              generalize H1 = H at hP hS ⊢
              refine lv_if_eq (tgt := 236) hx hb dX6_next_177 (by decide) (fun c_177 => ?_) (fun c_177 => ?_)
              · rw [if_pos c_177] at hrun
                exact X236 d_cursor_162 d_number_162 H locs hP hD hS ls hl hrun
              · rw [if_neg c_177] at hrun
                refine lv_aload_n hx hb dX6_next_180 rfl (lv_at hl 0 rfl) ?_
                refine lv_aload_n hx hb dX6_next_181 rfl (lv_at hl 0 rfl) ?_
                refine va_get (D := (dC, dI)) (ci := 6) (v := .int d_cursor_162) (C := RX6) (T := TX6) (N := 30) hx hb hts iwX6 hown hK hP 0 rfl rfl 13 (by decide) (hts (.fieldLink RX6 63 "SkyListenersModel" "cursor" "I") (by decide +kernel)) (fun _ h9 => h9) rfl dX6_next_182 ?_
                refine lv_aload_n hx hb dX6_next_185 rfl (lv_at hl 0 rfl) ?_
                refine va_get (D := (dC, dI)) (ci := 6) (v := .int d_cursor_26) (C := RX6) (T := TX6) (N := 30) hx hb hts iwX6 hown hK hP 0 rfl rfl 14 (by decide) (hts (.fieldLink RX6 70 "SkyListenersModel" "start" "I") (by decide +kernel)) (fun _ h9 => h9) rfl dX6_next_186 ?_
                refine lv_isub hx hb dX6_next_189 ?_
                refine lv_iconst (v := 3) hx hb dX6_next_190 (by decide) ?_
                have J220 : ∀ (t1_220 : Int32) (H : Heap) (locs : List Loc), va_P (dC, dI) vwCl [(p_this, .inr (6, [.int d_dishes, .int d_speakers, .ref p_speaker, .int d_noises, .ref p_noise, .int d_askers, .ref p_asker, .ref p_st, .ref p_images, .ref p_isKept, .long d_trace, .ref p_text, .int d_texted, .int d_cursor_162, .int d_cursor_26, .int d_token, .int d_number_162, .long d_word, .int d_isWrong, .int d_saidDishes, .ref p_saidMount, .int d_saidSpeakers, .ref p_saidSpeaker, .int d_saidNoises, .ref p_saidNoise, .int d_saidAskers, .ref p_saidAsker, .ref p_room, .int d_couldBe, .int d_couldHere])), (p_text, .inl (cI, 250, .inl d_text))] H → va_D A [(p_this, .inr (6, [.int d_dishes, .int d_speakers, .ref p_speaker, .int d_noises, .ref p_noise, .int d_askers, .ref p_asker, .ref p_st, .ref p_images, .ref p_isKept, .long d_trace, .ref p_text, .int d_texted, .int d_cursor_162, .int d_cursor_26, .int d_token, .int d_number_162, .long d_word, .int d_isWrong, .int d_saidDishes, .ref p_saidMount, .int d_saidSpeakers, .ref p_saidSpeaker, .int d_saidNoises, .ref p_saidNoise, .int d_saidAskers, .ref p_saidAsker, .ref p_room, .int d_couldBe, .int d_couldHere])), (p_text, .inl (cI, 250, .inl d_text))] → va_S A s.heap H locs → ∀ ls : Array Slot, lv_has ls 2 [(0, .ref p_this), (1, .int q39)] → f_X6_next_J220 (f_X6_next_L162 (f_X6_next_X236 q39 d_cursor_26 d_token d_word) q39 d_texted d_cursor_26 d_token d_word d_text n9_162) q39 d_texted d_cursor_162 d_cursor_26 d_token d_number_162 d_word d_text t1_220 = some out → W p l e ({ frames := 1, cells := 0, slots := 0, locals := 22 } : Room) s m ([.ref p_this] : List Value).toArray below meth c H locs 0 0 Q (F0 m 220 ls [.int t1_220, .ref p_this]) := by
                  intro t1_220 H locs hP hD hS ls hl hrun
                  rw [f_X6_next_J220] at hrun
                  refine va_put (D := (dC, dI)) (ci := 6) (v := .int t1_220) (ty := .int) (C := RX6) (T := TX6) (N := 30) hx hb hts iwX6 tyX6 tyX6_ok nmX6 hown hK hP hD hS 0 rfl rfl 16 (by decide) (hts (.fieldLink RX6 80 "SkyListenersModel" "number" "I") (by decide +kernel)) (fun _ h9 => h9) rfl (by decide +kernel) rfl rfl (Nat.le_of_ble_eq_true rfl) dX6_next_220 (fun H locs hP hD hS => ?_)
                  have hP : va_P (dC, dI) vwCl [(p_this, .inr (6, [.int d_dishes, .int d_speakers, .ref p_speaker, .int d_noises, .ref p_noise, .int d_askers, .ref p_asker, .ref p_st, .ref p_images, .ref p_isKept, .long d_trace, .ref p_text, .int d_texted, .int d_cursor_162, .int d_cursor_26, .int d_token, .int t1_220, .long d_word, .int d_isWrong, .int d_saidDishes, .ref p_saidMount, .int d_saidSpeakers, .ref p_saidSpeaker, .int d_saidNoises, .ref p_saidNoise, .int d_saidAskers, .ref p_saidAsker, .ref p_room, .int d_couldBe, .int d_couldHere])), (p_text, .inl (cI, 250, .inl d_text))] H := hP
                  have hD : va_D A [(p_this, .inr (6, [.int d_dishes, .int d_speakers, .ref p_speaker, .int d_noises, .ref p_noise, .int d_askers, .ref p_asker, .ref p_st, .ref p_images, .ref p_isKept, .long d_trace, .ref p_text, .int d_texted, .int d_cursor_162, .int d_cursor_26, .int d_token, .int t1_220, .long d_word, .int d_isWrong, .int d_saidDishes, .ref p_saidMount, .int d_saidSpeakers, .ref p_saidSpeaker, .int d_saidNoises, .ref p_saidNoise, .int d_saidAskers, .ref p_saidAsker, .ref p_room, .int d_couldBe, .int d_couldHere])), (p_text, .inl (cI, 250, .inl d_text))] := hD
                  refine lv_aload_n hx hb dX6_next_223 rfl (lv_at hl 0 rfl) ?_
                  refine lv_dup hx hb dX6_next_224 rfl ?_
                  refine va_get (D := (dC, dI)) (ci := 6) (v := .int d_cursor_162) (C := RX6) (T := TX6) (N := 30) hx hb hts iwX6 hown hK hP 0 rfl rfl 13 (by decide) (hts (.fieldLink RX6 63 "SkyListenersModel" "cursor" "I") (by decide +kernel)) (fun _ h9 => h9) rfl dX6_next_225 ?_
                  refine lv_iconst (v := 1) hx hb dX6_next_228 (by decide) ?_
                  refine lv_iadd hx hb dX6_next_229 ?_
                  refine va_put (D := (dC, dI)) (ci := 6) (v := .int (d_cursor_162 + 1)) (ty := .int) (C := RX6) (T := TX6) (N := 30) hx hb hts iwX6 tyX6 tyX6_ok nmX6 hown hK hP hD hS 0 rfl rfl 13 (by decide) (hts (.fieldLink RX6 63 "SkyListenersModel" "cursor" "I") (by decide +kernel)) (fun _ h9 => h9) rfl (by decide +kernel) rfl rfl (Nat.le_of_ble_eq_true rfl) dX6_next_230 (fun H locs hP hD hS => ?_)
                  have hP : va_P (dC, dI) vwCl [(p_this, .inr (6, [.int d_dishes, .int d_speakers, .ref p_speaker, .int d_noises, .ref p_noise, .int d_askers, .ref p_asker, .ref p_st, .ref p_images, .ref p_isKept, .long d_trace, .ref p_text, .int d_texted, .int (d_cursor_162 + 1), .int d_cursor_26, .int d_token, .int t1_220, .long d_word, .int d_isWrong, .int d_saidDishes, .ref p_saidMount, .int d_saidSpeakers, .ref p_saidSpeaker, .int d_saidNoises, .ref p_saidNoise, .int d_saidAskers, .ref p_saidAsker, .ref p_room, .int d_couldBe, .int d_couldHere])), (p_text, .inl (cI, 250, .inl d_text))] H := hP
                  have hD : va_D A [(p_this, .inr (6, [.int d_dishes, .int d_speakers, .ref p_speaker, .int d_noises, .ref p_noise, .int d_askers, .ref p_asker, .ref p_st, .ref p_images, .ref p_isKept, .long d_trace, .ref p_text, .int d_texted, .int (d_cursor_162 + 1), .int d_cursor_26, .int d_token, .int t1_220, .long d_word, .int d_isWrong, .int d_saidDishes, .ref p_saidMount, .int d_saidSpeakers, .ref p_saidSpeaker, .int d_saidNoises, .ref p_saidNoise, .int d_saidAskers, .ref p_saidAsker, .ref p_room, .int d_couldBe, .int d_couldHere])), (p_text, .inl (cI, 250, .inl d_text))] := hD
                  refine lv_goto (tgt := 162) hx hb dX6_next_233 (by decide) ?_
                  exact ih162 (d_cursor_162 + 1) t1_220 H locs hP hD hS ls hl hrun
                refine lv_icmp_ge (tgt := 216) hx hb dX6_next_191 (by decide) (fun c_191 => ?_) (fun c_191 => ?_)
                · rw [if_pos c_191] at hrun
                  refine lv_aload_n hx hb dX6_next_216 rfl (lv_at hl 0 rfl) ?_
                  refine va_get (D := (dC, dI)) (ci := 6) (v := .int d_number_162) (C := RX6) (T := TX6) (N := 30) hx hb hts iwX6 hown hK hP 0 rfl rfl 16 (by decide) (hts (.fieldLink RX6 80 "SkyListenersModel" "number" "I") (by decide +kernel)) (fun _ h9 => h9) rfl dX6_next_217 ?_
                  exact J220 d_number_162 H locs hP hD hS ls hl hrun
                · rw [if_neg c_191] at hrun
                  refine lv_bipush (v := 10) hx hb dX6_next_194 (by decide) ?_
                  refine lv_aload_n hx hb dX6_next_196 rfl (lv_at hl 0 rfl) ?_
                  refine va_get (D := (dC, dI)) (ci := 6) (v := .int d_number_162) (C := RX6) (T := TX6) (N := 30) hx hb hts iwX6 hown hK hP 0 rfl rfl 16 (by decide) (hts (.fieldLink RX6 80 "SkyListenersModel" "number" "I") (by decide +kernel)) (fun _ h9 => h9) rfl dX6_next_197 ?_
                  refine lv_imul hx hb dX6_next_200 ?_
                  refine lv_aload_n hx hb dX6_next_201 rfl (lv_at hl 0 rfl) ?_
                  refine lv_aload_n hx hb dX6_next_202 rfl (lv_at hl 0 rfl) ?_
                  refine va_get (D := (dC, dI)) (ci := 6) (v := .int d_cursor_162) (C := RX6) (T := TX6) (N := 30) hx hb hts iwX6 hown hK hP 0 rfl rfl 13 (by decide) (hts (.fieldLink RX6 63 "SkyListenersModel" "cursor" "I") (by decide +kernel)) (fun _ h9 => h9) rfl dX6_next_203 ?_
                  obtain ⟨q206, hq206, hrun⟩ := bind_out hrun
                  have hPc : va_P (dC, dI) vwCl [(p_this, .inr (6, [.int d_dishes, .int d_speakers, .ref p_speaker, .int d_noises, .ref p_noise, .int d_askers, .ref p_asker, .ref p_st, .ref p_images, .ref p_isKept, .long d_trace, .ref p_text, .int d_texted, .int d_cursor_162, .int d_cursor_26, .int d_token, .int d_number_162, .long d_word, .int d_isWrong, .int d_saidDishes, .ref p_saidMount, .int d_saidSpeakers, .ref p_saidSpeaker, .int d_saidNoises, .ref p_saidNoise, .int d_saidAskers, .ref p_saidAsker, .ref p_room, .int d_couldBe, .int d_couldHere])), (p_text, .inl (cI, 250, .inl d_text))] H := hP.sub [0, 1] rfl
                  have hDc : va_D A [(p_this, .inr (6, [.int d_dishes, .int d_speakers, .ref p_speaker, .int d_noises, .ref p_noise, .int d_askers, .ref p_asker, .ref p_st, .ref p_images, .ref p_isKept, .long d_trace, .ref p_text, .int d_texted, .int d_cursor_162, .int d_cursor_26, .int d_token, .int d_number_162, .long d_word, .int d_isWrong, .int d_saidDishes, .ref p_saidMount, .int d_saidSpeakers, .ref p_saidSpeaker, .int d_saidNoises, .ref p_saidNoise, .int d_saidAskers, .ref p_saidAsker, .ref p_room, .int d_couldBe, .int d_couldHere])), (p_text, .inl (cI, 250, .inl d_text))] := hD.sub [0, 1] (by decide) rfl
                  have hFc := va_free (wc := [(p_this, .inr (6, [.int d_dishes, .int d_speakers, .ref p_speaker, .int d_noises, .ref p_noise, .int d_askers, .ref p_asker, .ref p_st, .ref p_images, .ref p_isKept, .long d_trace, .ref p_text, .int d_texted, .int d_cursor_162, .int d_cursor_26, .int d_token, .int d_number_162, .long d_word, .int d_isWrong, .int d_saidDishes, .ref p_saidMount, .int d_saidSpeakers, .ref p_saidSpeaker, .int d_saidNoises, .ref p_saidNoise, .int d_saidAskers, .ref p_saidAsker, .ref p_room, .int d_couldBe, .int d_couldHere])), (p_text, .inl (cI, 250, .inl d_text))]) hD hS hA [0, 1] rfl
                  refine va_calli (va_runV (As := [.int d_cursor_162]) (rest := [.int (10 * d_number_162), .ref p_this]) ⟨hx, hb, hml, hown, hts⟩ (c_X6_byteAt l dC dI cI cZ H.size p_asker p_images p_isKept p_noise p_room p_saidAsker p_saidMount p_saidNoise p_saidSpeaker p_speaker p_st p_text p_this d_dishes d_speakers d_noises d_askers d_trace d_texted d_cursor_162 d_cursor_26 d_token d_number_162 d_word d_isWrong d_saidDishes d_saidSpeakers d_saidNoises d_saidAskers d_couldBe d_couldHere d_text d_cursor_162 q206 hq206) (cwV 1 hts gX6_next_X6_byteAt rfl rfl rfl (by decide +kernel) ⟨Nat.le_of_ble_eq_true rfl, Nat.le_of_ble_eq_true rfl⟩) ⟨fun a U g mk q => ⟨q.1, PC.mv q.2⟩, va_recv hK hP (ci := 6) (q0 := 0) rfl rfl, fun U hU hW => ⟨rfl, PC.of hU hW hPc hK hDc hN⟩⟩ rfl rfl hl.1 rfl (lv_room (Nat.le_of_ble_eq_true rfl)) dX6_next_206 ⟨Nat.zero_le _, Nat.zero_le _⟩) hS (fun q _ h => hFc q h) hFc (fun r_206 u t H1 locs ht hvm hw hB hz1 hk1 hS => ?_)
                  obtain ⟨hP1, hD1⟩ := hB
                  try dsimp only at hw
                  rw [hw]
                  rw [ht] at hP1
                  have hP : va_P (dC, dI) vwCl [(p_this, .inr (6, [.int d_dishes, .int d_speakers, .ref p_speaker, .int d_noises, .ref p_noise, .int d_askers, .ref p_asker, .ref p_st, .ref p_images, .ref p_isKept, .long d_trace, .ref p_text, .int d_texted, .int d_cursor_162, .int d_cursor_26, .int d_token, .int d_number_162, .long d_word, .int d_isWrong, .int d_saidDishes, .ref p_saidMount, .int d_saidSpeakers, .ref p_saidSpeaker, .int d_saidNoises, .ref p_saidNoise, .int d_saidAskers, .ref p_saidAsker, .ref p_room, .int d_couldBe, .int d_couldHere])), (p_text, .inl (cI, 250, .inl d_text))] H1 := join_ro hP hD [0, 1] rfl hk1 hP1
                  clear hPc hDc hFc hk1 hz1 hP1 hD1 ht hvm
                  generalize H1 = H at hP hS ⊢
                  refine lv_iadd hx hb dX6_next_209 ?_
                  refine lv_bipush (v := 48) hx hb dX6_next_210 (by decide) ?_
                  refine lv_isub hx hb dX6_next_212 ?_
                  refine lv_goto (tgt := 220) hx hb dX6_next_213 (by decide) ?_
                  exact J220 (((10 * d_number_162) + q206) - 48) H locs hP hD hS ls hl hrun
          exact L162 FU d_cursor_26 0 H locs hP hD hS ls (lv_sub hl [1, 0] rfl) hrun
      · rw [if_neg c_63] at hrun
        refine lv_aload_n hx hb dX6_next_66 rfl (lv_at hl 1 rfl) ?_
        refine lv_iconst (v := 1) hx hb dX6_next_67 (by decide) ?_
        refine va_put (D := (dC, dI)) (ci := 6) (v := .int 1) (ty := .int) (C := RX6) (T := TX6) (N := 30) hx hb hts iwX6 tyX6 tyX6_ok nmX6 hown hK hP hD hS 0 rfl rfl 15 (by decide) (hts (.fieldLink RX6 73 "SkyListenersModel" "token" "I") (by decide +kernel)) (fun _ h9 => h9) rfl (by decide +kernel) rfl rfl (Nat.le_of_ble_eq_true rfl) dX6_next_68 (fun H locs hP hD hS => ?_)
        have hP : va_P (dC, dI) vwCl [(p_this, .inr (6, [.int d_dishes, .int d_speakers, .ref p_speaker, .int d_noises, .ref p_noise, .int d_askers, .ref p_asker, .ref p_st, .ref p_images, .ref p_isKept, .long d_trace, .ref p_text, .int d_texted, .int d_cursor_26, .int d_cursor_26, .int 1, .int d_number, .long d_word, .int d_isWrong, .int d_saidDishes, .ref p_saidMount, .int d_saidSpeakers, .ref p_saidSpeaker, .int d_saidNoises, .ref p_saidNoise, .int d_saidAskers, .ref p_saidAsker, .ref p_room, .int d_couldBe, .int d_couldHere])), (p_text, .inl (cI, 250, .inl d_text))] H := hP
        have hD : va_D A [(p_this, .inr (6, [.int d_dishes, .int d_speakers, .ref p_speaker, .int d_noises, .ref p_noise, .int d_askers, .ref p_asker, .ref p_st, .ref p_images, .ref p_isKept, .long d_trace, .ref p_text, .int d_texted, .int d_cursor_26, .int d_cursor_26, .int 1, .int d_number, .long d_word, .int d_isWrong, .int d_saidDishes, .ref p_saidMount, .int d_saidSpeakers, .ref p_saidSpeaker, .int d_saidNoises, .ref p_saidNoise, .int d_saidAskers, .ref p_saidAsker, .ref p_room, .int d_couldBe, .int d_couldHere])), (p_text, .inl (cI, 250, .inl d_text))] := hD
        refine lv_aload_n hx hb dX6_next_71 rfl (lv_at hl 1 rfl) ?_
        refine lv_lconst (v := 0) hx hb dX6_next_72 (by decide) ?_
        refine va_put (D := (dC, dI)) (ci := 6) (v := .long 0) (ty := .long) (C := RX6) (T := TX6) (N := 30) hx hb hts iwX6 tyX6 tyX6_ok nmX6 hown hK hP hD hS 0 rfl rfl 17 (by decide) (hts (.fieldLink RX6 76 "SkyListenersModel" "word" "J") (by decide +kernel)) (fun _ h9 => h9) rfl (by decide +kernel) rfl rfl (Nat.le_of_ble_eq_true rfl) dX6_next_73 (fun H locs hP hD hS => ?_)
        have hP : va_P (dC, dI) vwCl [(p_this, .inr (6, [.int d_dishes, .int d_speakers, .ref p_speaker, .int d_noises, .ref p_noise, .int d_askers, .ref p_asker, .ref p_st, .ref p_images, .ref p_isKept, .long d_trace, .ref p_text, .int d_texted, .int d_cursor_26, .int d_cursor_26, .int 1, .int d_number, .long 0, .int d_isWrong, .int d_saidDishes, .ref p_saidMount, .int d_saidSpeakers, .ref p_saidSpeaker, .int d_saidNoises, .ref p_saidNoise, .int d_saidAskers, .ref p_saidAsker, .ref p_room, .int d_couldBe, .int d_couldHere])), (p_text, .inl (cI, 250, .inl d_text))] H := hP
        have hD : va_D A [(p_this, .inr (6, [.int d_dishes, .int d_speakers, .ref p_speaker, .int d_noises, .ref p_noise, .int d_askers, .ref p_asker, .ref p_st, .ref p_images, .ref p_isKept, .long d_trace, .ref p_text, .int d_texted, .int d_cursor_26, .int d_cursor_26, .int 1, .int d_number, .long 0, .int d_isWrong, .int d_saidDishes, .ref p_saidMount, .int d_saidSpeakers, .ref p_saidSpeaker, .int d_saidNoises, .ref p_saidNoise, .int d_saidAskers, .ref p_saidAsker, .ref p_room, .int d_couldBe, .int d_couldHere])), (p_text, .inl (cI, 250, .inl d_text))] := hD
        have L76 : ∀ (n9_76 : Nat) (d_cursor_76 : Int32) (d_word_76 : Int64) (H : Heap) (locs : List Loc), va_P (dC, dI) vwCl [(p_this, .inr (6, [.int d_dishes, .int d_speakers, .ref p_speaker, .int d_noises, .ref p_noise, .int d_askers, .ref p_asker, .ref p_st, .ref p_images, .ref p_isKept, .long d_trace, .ref p_text, .int d_texted, .int d_cursor_76, .int d_cursor_26, .int 1, .int d_number, .long d_word_76, .int d_isWrong, .int d_saidDishes, .ref p_saidMount, .int d_saidSpeakers, .ref p_saidSpeaker, .int d_saidNoises, .ref p_saidNoise, .int d_saidAskers, .ref p_saidAsker, .ref p_room, .int d_couldBe, .int d_couldHere])), (p_text, .inl (cI, 250, .inl d_text))] H → va_D A [(p_this, .inr (6, [.int d_dishes, .int d_speakers, .ref p_speaker, .int d_noises, .ref p_noise, .int d_askers, .ref p_asker, .ref p_st, .ref p_images, .ref p_isKept, .long d_trace, .ref p_text, .int d_texted, .int d_cursor_76, .int d_cursor_26, .int 1, .int d_number, .long d_word_76, .int d_isWrong, .int d_saidDishes, .ref p_saidMount, .int d_saidSpeakers, .ref p_saidSpeaker, .int d_saidNoises, .ref p_saidNoise, .int d_saidAskers, .ref p_saidAsker, .ref p_room, .int d_couldBe, .int d_couldHere])), (p_text, .inl (cI, 250, .inl d_text))] → va_S A s.heap H locs → ∀ ls : Array Slot, lv_has ls 2 [(0, .ref p_this)] → f_X6_next_L76 d_texted d_cursor_26 1 d_number d_text n9_76 d_cursor_76 d_word_76 = some out → W p l e ({ frames := 1, cells := 0, slots := 0, locals := 22 } : Room) s m ([.ref p_this] : List Value).toArray below meth c H locs 0 0 Q (F0 m 76 ls []) := by
          intro n9_76
          induction n9_76 with
          | zero =>
            intro d_cursor_76 d_word_76 H locs hP hD hS ls hl hrun
            rw [f_X6_next_L76] at hrun
            cases hrun
          | succ n9_76 ih76 =>
            intro d_cursor_76 d_word_76 H locs hP hD hS ls hl hrun
            rw [f_X6_next_L76] at hrun
            refine lv_aload_n hx hb dX6_next_76 rfl (lv_at hl 0 rfl) ?_
            refine lv_aload_n hx hb dX6_next_77 rfl (lv_at hl 0 rfl) ?_
            refine va_get (D := (dC, dI)) (ci := 6) (v := .int d_cursor_76) (C := RX6) (T := TX6) (N := 30) hx hb hts iwX6 hown hK hP 0 rfl rfl 13 (by decide) (hts (.fieldLink RX6 63 "SkyListenersModel" "cursor" "I") (by decide +kernel)) (fun _ h9 => h9) rfl dX6_next_78 ?_
            obtain ⟨q81, hq81, hrun⟩ := bind_out hrun
            have hPc : va_P (dC, dI) vwCl [(p_this, .inr (6, [.int d_dishes, .int d_speakers, .ref p_speaker, .int d_noises, .ref p_noise, .int d_askers, .ref p_asker, .ref p_st, .ref p_images, .ref p_isKept, .long d_trace, .ref p_text, .int d_texted, .int d_cursor_76, .int d_cursor_26, .int 1, .int d_number, .long d_word_76, .int d_isWrong, .int d_saidDishes, .ref p_saidMount, .int d_saidSpeakers, .ref p_saidSpeaker, .int d_saidNoises, .ref p_saidNoise, .int d_saidAskers, .ref p_saidAsker, .ref p_room, .int d_couldBe, .int d_couldHere])), (p_text, .inl (cI, 250, .inl d_text))] H := hP.sub [0, 1] rfl
            have hDc : va_D A [(p_this, .inr (6, [.int d_dishes, .int d_speakers, .ref p_speaker, .int d_noises, .ref p_noise, .int d_askers, .ref p_asker, .ref p_st, .ref p_images, .ref p_isKept, .long d_trace, .ref p_text, .int d_texted, .int d_cursor_76, .int d_cursor_26, .int 1, .int d_number, .long d_word_76, .int d_isWrong, .int d_saidDishes, .ref p_saidMount, .int d_saidSpeakers, .ref p_saidSpeaker, .int d_saidNoises, .ref p_saidNoise, .int d_saidAskers, .ref p_saidAsker, .ref p_room, .int d_couldBe, .int d_couldHere])), (p_text, .inl (cI, 250, .inl d_text))] := hD.sub [0, 1] (by decide) rfl
            have hFc := va_free (wc := [(p_this, .inr (6, [.int d_dishes, .int d_speakers, .ref p_speaker, .int d_noises, .ref p_noise, .int d_askers, .ref p_asker, .ref p_st, .ref p_images, .ref p_isKept, .long d_trace, .ref p_text, .int d_texted, .int d_cursor_76, .int d_cursor_26, .int 1, .int d_number, .long d_word_76, .int d_isWrong, .int d_saidDishes, .ref p_saidMount, .int d_saidSpeakers, .ref p_saidSpeaker, .int d_saidNoises, .ref p_saidNoise, .int d_saidAskers, .ref p_saidAsker, .ref p_room, .int d_couldBe, .int d_couldHere])), (p_text, .inl (cI, 250, .inl d_text))]) hD hS hA [0, 1] rfl
            refine va_calli (va_runV (As := [.int d_cursor_76]) (rest := []) ⟨hx, hb, hml, hown, hts⟩ (c_X6_byteAt l dC dI cI cZ H.size p_asker p_images p_isKept p_noise p_room p_saidAsker p_saidMount p_saidNoise p_saidSpeaker p_speaker p_st p_text p_this d_dishes d_speakers d_noises d_askers d_trace d_texted d_cursor_76 d_cursor_26 1 d_number d_word_76 d_isWrong d_saidDishes d_saidSpeakers d_saidNoises d_saidAskers d_couldBe d_couldHere d_text d_cursor_76 q81 hq81) (cwV 1 hts gX6_next_X6_byteAt rfl rfl rfl (by decide +kernel) ⟨Nat.le_of_ble_eq_true rfl, Nat.le_of_ble_eq_true rfl⟩) ⟨fun a U g mk q => ⟨q.1, PC.mv q.2⟩, va_recv hK hP (ci := 6) (q0 := 0) rfl rfl, fun U hU hW => ⟨rfl, PC.of hU hW hPc hK hDc hN⟩⟩ rfl rfl hl.1 rfl (lv_room (Nat.le_of_ble_eq_true rfl)) dX6_next_81 ⟨Nat.zero_le _, Nat.zero_le _⟩) hS (fun q _ h => hFc q h) hFc (fun r_81 u t H1 locs ht hvm hw hB hz1 hk1 hS => ?_)
            obtain ⟨hP1, hD1⟩ := hB
            try dsimp only at hw
            rw [hw]
            rw [ht] at hP1
            have hP : va_P (dC, dI) vwCl [(p_this, .inr (6, [.int d_dishes, .int d_speakers, .ref p_speaker, .int d_noises, .ref p_noise, .int d_askers, .ref p_asker, .ref p_st, .ref p_images, .ref p_isKept, .long d_trace, .ref p_text, .int d_texted, .int d_cursor_76, .int d_cursor_26, .int 1, .int d_number, .long d_word_76, .int d_isWrong, .int d_saidDishes, .ref p_saidMount, .int d_saidSpeakers, .ref p_saidSpeaker, .int d_saidNoises, .ref p_saidNoise, .int d_saidAskers, .ref p_saidAsker, .ref p_room, .int d_couldBe, .int d_couldHere])), (p_text, .inl (cI, 250, .inl d_text))] H1 := join_ro hP hD [0, 1] rfl hk1 hP1
            clear hPc hDc hFc hk1 hz1 hP1 hD1 ht hvm
            generalize H1 = H at hP hS ⊢
            refine lv_bipush (v := 97) hx hb dX6_next_84 (by decide) ?_
            refine lv_bipush (v := 122) hx hb dX6_next_86 (by decide) ?_
            have hPc : va_P (dC, dI) vwCl [] H := hP.sub [] rfl
            have hDc : va_D A [] := hD.sub [] (by decide) rfl
            have hFc := va_free (wc := []) hD hS hA [] rfl
            refine va_calli (va_runS (As := [.int q81, .int 97, .int 122]) (rest := []) ⟨hx, hb, hml, hown, hts⟩ (c_X6_in l dC dI cI cZ H.size q81 97 122 (f_X6_in q81 97 122) rfl) (va_cwS 3 hts gX6_next_X6_in rfl rfl rfl (by decide +kernel) ⟨Nat.le_of_ble_eq_true rfl, Nat.le_of_ble_eq_true rfl⟩) ⟨fun a U g mk q => ⟨q.1, PC.mv q.2⟩, fun U hU hW => ⟨rfl, PC.of hU hW hPc hK hDc hN⟩⟩ rfl rfl hl.1 rfl (lv_room (Nat.le_of_ble_eq_true rfl)) dX6_next_88 ⟨Nat.zero_le _, Nat.zero_le _⟩) hS (fun q _ h => hFc q h) hFc (fun r_88 u t H1 locs ht hvm hw hB hz1 hk1 hS => ?_)
            obtain ⟨hP1, hD1⟩ := hB
            try dsimp only at hw
            rw [hw]
            rw [ht] at hP1
            have hP : va_P (dC, dI) vwCl [(p_this, .inr (6, [.int d_dishes, .int d_speakers, .ref p_speaker, .int d_noises, .ref p_noise, .int d_askers, .ref p_asker, .ref p_st, .ref p_images, .ref p_isKept, .long d_trace, .ref p_text, .int d_texted, .int d_cursor_76, .int d_cursor_26, .int 1, .int d_number, .long d_word_76, .int d_isWrong, .int d_saidDishes, .ref p_saidMount, .int d_saidSpeakers, .ref p_saidSpeaker, .int d_saidNoises, .ref p_saidNoise, .int d_saidAskers, .ref p_saidAsker, .ref p_room, .int d_couldBe, .int d_couldHere])), (p_text, .inl (cI, 250, .inl d_text))] H1 := join_ro hP hD [] rfl hk1 hP1
            clear hPc hDc hFc hk1 hz1 hP1 hD1 ht hvm
            generalize H1 = H at hP hS ⊢
            refine lv_if_eq (tgt := 305) hx hb dX6_next_91 (by decide) (fun c_91 => ?_) (fun c_91 => ?_)
            · rw [if_pos c_91] at hrun
              have hrun := Option.some.inj hrun
              subst hrun
              rw [hQ]
              exact W.vret hx hb hr (fun t ht hW => ⟨⟨(), rfl, trivial, by rw [ht]; exact hP, hD⟩, hS.F ht⟩) hS.2.2 dX6_next_305
            · rw [if_neg c_91] at hrun
              refine lv_aload_n hx hb dX6_next_94 rfl (lv_at hl 0 rfl) ?_
              refine lv_aload_n hx hb dX6_next_95 rfl (lv_at hl 0 rfl) ?_
              refine va_get (D := (dC, dI)) (ci := 6) (v := .int d_cursor_76) (C := RX6) (T := TX6) (N := 30) hx hb hts iwX6 hown hK hP 0 rfl rfl 13 (by decide) (hts (.fieldLink RX6 63 "SkyListenersModel" "cursor" "I") (by decide +kernel)) (fun _ h9 => h9) rfl dX6_next_96 ?_
              refine lv_aload_n hx hb dX6_next_99 rfl (lv_at hl 0 rfl) ?_
              refine va_get (D := (dC, dI)) (ci := 6) (v := .int d_cursor_26) (C := RX6) (T := TX6) (N := 30) hx hb hts iwX6 hown hK hP 0 rfl rfl 14 (by decide) (hts (.fieldLink RX6 70 "SkyListenersModel" "start" "I") (by decide +kernel)) (fun _ h9 => h9) rfl dX6_next_100 ?_
              refine lv_isub hx hb dX6_next_103 ?_
              refine lv_bipush (v := 8) hx hb dX6_next_104 (by decide) ?_
              have J130 : ∀ (t1_130 : Int64) (H : Heap) (locs : List Loc), va_P (dC, dI) vwCl [(p_this, .inr (6, [.int d_dishes, .int d_speakers, .ref p_speaker, .int d_noises, .ref p_noise, .int d_askers, .ref p_asker, .ref p_st, .ref p_images, .ref p_isKept, .long d_trace, .ref p_text, .int d_texted, .int d_cursor_76, .int d_cursor_26, .int 1, .int d_number, .long d_word_76, .int d_isWrong, .int d_saidDishes, .ref p_saidMount, .int d_saidSpeakers, .ref p_saidSpeaker, .int d_saidNoises, .ref p_saidNoise, .int d_saidAskers, .ref p_saidAsker, .ref p_room, .int d_couldBe, .int d_couldHere])), (p_text, .inl (cI, 250, .inl d_text))] H → va_D A [(p_this, .inr (6, [.int d_dishes, .int d_speakers, .ref p_speaker, .int d_noises, .ref p_noise, .int d_askers, .ref p_asker, .ref p_st, .ref p_images, .ref p_isKept, .long d_trace, .ref p_text, .int d_texted, .int d_cursor_76, .int d_cursor_26, .int 1, .int d_number, .long d_word_76, .int d_isWrong, .int d_saidDishes, .ref p_saidMount, .int d_saidSpeakers, .ref p_saidSpeaker, .int d_saidNoises, .ref p_saidNoise, .int d_saidAskers, .ref p_saidAsker, .ref p_room, .int d_couldBe, .int d_couldHere])), (p_text, .inl (cI, 250, .inl d_text))] → va_S A s.heap H locs → ∀ ls : Array Slot, lv_has ls 2 [(0, .ref p_this)] → f_X6_next_J130 (f_X6_next_L76 d_texted d_cursor_26 1 d_number d_text n9_76) d_texted d_cursor_76 d_cursor_26 1 d_number d_word_76 d_text t1_130 = some out → W p l e ({ frames := 1, cells := 0, slots := 0, locals := 22 } : Room) s m ([.ref p_this] : List Value).toArray below meth c H locs 0 0 Q (F0 m 130 ls [.long t1_130, .ref p_this]) := by
                intro t1_130 H locs hP hD hS ls hl hrun
                rw [f_X6_next_J130] at hrun
                refine va_put (D := (dC, dI)) (ci := 6) (v := .long t1_130) (ty := .long) (C := RX6) (T := TX6) (N := 30) hx hb hts iwX6 tyX6 tyX6_ok nmX6 hown hK hP hD hS 0 rfl rfl 17 (by decide) (hts (.fieldLink RX6 76 "SkyListenersModel" "word" "J") (by decide +kernel)) (fun _ h9 => h9) rfl (by decide +kernel) rfl rfl (Nat.le_of_ble_eq_true rfl) dX6_next_130 (fun H locs hP hD hS => ?_)
                have hP : va_P (dC, dI) vwCl [(p_this, .inr (6, [.int d_dishes, .int d_speakers, .ref p_speaker, .int d_noises, .ref p_noise, .int d_askers, .ref p_asker, .ref p_st, .ref p_images, .ref p_isKept, .long d_trace, .ref p_text, .int d_texted, .int d_cursor_76, .int d_cursor_26, .int 1, .int d_number, .long t1_130, .int d_isWrong, .int d_saidDishes, .ref p_saidMount, .int d_saidSpeakers, .ref p_saidSpeaker, .int d_saidNoises, .ref p_saidNoise, .int d_saidAskers, .ref p_saidAsker, .ref p_room, .int d_couldBe, .int d_couldHere])), (p_text, .inl (cI, 250, .inl d_text))] H := hP
                have hD : va_D A [(p_this, .inr (6, [.int d_dishes, .int d_speakers, .ref p_speaker, .int d_noises, .ref p_noise, .int d_askers, .ref p_asker, .ref p_st, .ref p_images, .ref p_isKept, .long d_trace, .ref p_text, .int d_texted, .int d_cursor_76, .int d_cursor_26, .int 1, .int d_number, .long t1_130, .int d_isWrong, .int d_saidDishes, .ref p_saidMount, .int d_saidSpeakers, .ref p_saidSpeaker, .int d_saidNoises, .ref p_saidNoise, .int d_saidAskers, .ref p_saidAsker, .ref p_room, .int d_couldBe, .int d_couldHere])), (p_text, .inl (cI, 250, .inl d_text))] := hD
                refine lv_aload_n hx hb dX6_next_133 rfl (lv_at hl 0 rfl) ?_
                refine lv_dup hx hb dX6_next_134 rfl ?_
                refine va_get (D := (dC, dI)) (ci := 6) (v := .int d_cursor_76) (C := RX6) (T := TX6) (N := 30) hx hb hts iwX6 hown hK hP 0 rfl rfl 13 (by decide) (hts (.fieldLink RX6 63 "SkyListenersModel" "cursor" "I") (by decide +kernel)) (fun _ h9 => h9) rfl dX6_next_135 ?_
                refine lv_iconst (v := 1) hx hb dX6_next_138 (by decide) ?_
                refine lv_iadd hx hb dX6_next_139 ?_
                refine va_put (D := (dC, dI)) (ci := 6) (v := .int (d_cursor_76 + 1)) (ty := .int) (C := RX6) (T := TX6) (N := 30) hx hb hts iwX6 tyX6 tyX6_ok nmX6 hown hK hP hD hS 0 rfl rfl 13 (by decide) (hts (.fieldLink RX6 63 "SkyListenersModel" "cursor" "I") (by decide +kernel)) (fun _ h9 => h9) rfl (by decide +kernel) rfl rfl (Nat.le_of_ble_eq_true rfl) dX6_next_140 (fun H locs hP hD hS => ?_)
                have hP : va_P (dC, dI) vwCl [(p_this, .inr (6, [.int d_dishes, .int d_speakers, .ref p_speaker, .int d_noises, .ref p_noise, .int d_askers, .ref p_asker, .ref p_st, .ref p_images, .ref p_isKept, .long d_trace, .ref p_text, .int d_texted, .int (d_cursor_76 + 1), .int d_cursor_26, .int 1, .int d_number, .long t1_130, .int d_isWrong, .int d_saidDishes, .ref p_saidMount, .int d_saidSpeakers, .ref p_saidSpeaker, .int d_saidNoises, .ref p_saidNoise, .int d_saidAskers, .ref p_saidAsker, .ref p_room, .int d_couldBe, .int d_couldHere])), (p_text, .inl (cI, 250, .inl d_text))] H := hP
                have hD : va_D A [(p_this, .inr (6, [.int d_dishes, .int d_speakers, .ref p_speaker, .int d_noises, .ref p_noise, .int d_askers, .ref p_asker, .ref p_st, .ref p_images, .ref p_isKept, .long d_trace, .ref p_text, .int d_texted, .int (d_cursor_76 + 1), .int d_cursor_26, .int 1, .int d_number, .long t1_130, .int d_isWrong, .int d_saidDishes, .ref p_saidMount, .int d_saidSpeakers, .ref p_saidSpeaker, .int d_saidNoises, .ref p_saidNoise, .int d_saidAskers, .ref p_saidAsker, .ref p_room, .int d_couldBe, .int d_couldHere])), (p_text, .inl (cI, 250, .inl d_text))] := hD
                refine lv_goto (tgt := 76) hx hb dX6_next_143 (by decide) ?_
                exact ih76 (d_cursor_76 + 1) t1_130 H locs hP hD hS ls hl hrun
              refine lv_icmp_ge (tgt := 129) hx hb dX6_next_106 (by decide) (fun c_106 => ?_) (fun c_106 => ?_)
              · rw [if_pos c_106] at hrun
                refine lv_lconst (v := 0) hx hb dX6_next_129 (by decide) ?_
                exact J130 0 H locs hP hD hS ls hl hrun
              · rw [if_neg c_106] at hrun
                refine lv_aload_n hx hb dX6_next_109 rfl (lv_at hl 0 rfl) ?_
                refine va_get (D := (dC, dI)) (ci := 6) (v := .long d_word_76) (C := RX6) (T := TX6) (N := 30) hx hb hts iwX6 hown hK hP 0 rfl rfl 17 (by decide) (hts (.fieldLink RX6 76 "SkyListenersModel" "word" "J") (by decide +kernel)) (fun _ h9 => h9) rfl dX6_next_110 ?_
                refine lv_bipush (v := 8) hx hb dX6_next_113 (by decide) ?_
                refine lv_lshl (v := d_word_76 <<< ((8 : Int32).toInt64 &&& 63)) hx hb dX6_next_115 rfl ?_
                refine lv_aload_n hx hb dX6_next_116 rfl (lv_at hl 0 rfl) ?_
                refine lv_aload_n hx hb dX6_next_117 rfl (lv_at hl 0 rfl) ?_
                refine va_get (D := (dC, dI)) (ci := 6) (v := .int d_cursor_76) (C := RX6) (T := TX6) (N := 30) hx hb hts iwX6 hown hK hP 0 rfl rfl 13 (by decide) (hts (.fieldLink RX6 63 "SkyListenersModel" "cursor" "I") (by decide +kernel)) (fun _ h9 => h9) rfl dX6_next_118 ?_
                obtain ⟨q121, hq121, hrun⟩ := bind_out hrun
                have hPc : va_P (dC, dI) vwCl [(p_this, .inr (6, [.int d_dishes, .int d_speakers, .ref p_speaker, .int d_noises, .ref p_noise, .int d_askers, .ref p_asker, .ref p_st, .ref p_images, .ref p_isKept, .long d_trace, .ref p_text, .int d_texted, .int d_cursor_76, .int d_cursor_26, .int 1, .int d_number, .long d_word_76, .int d_isWrong, .int d_saidDishes, .ref p_saidMount, .int d_saidSpeakers, .ref p_saidSpeaker, .int d_saidNoises, .ref p_saidNoise, .int d_saidAskers, .ref p_saidAsker, .ref p_room, .int d_couldBe, .int d_couldHere])), (p_text, .inl (cI, 250, .inl d_text))] H := hP.sub [0, 1] rfl
                have hDc : va_D A [(p_this, .inr (6, [.int d_dishes, .int d_speakers, .ref p_speaker, .int d_noises, .ref p_noise, .int d_askers, .ref p_asker, .ref p_st, .ref p_images, .ref p_isKept, .long d_trace, .ref p_text, .int d_texted, .int d_cursor_76, .int d_cursor_26, .int 1, .int d_number, .long d_word_76, .int d_isWrong, .int d_saidDishes, .ref p_saidMount, .int d_saidSpeakers, .ref p_saidSpeaker, .int d_saidNoises, .ref p_saidNoise, .int d_saidAskers, .ref p_saidAsker, .ref p_room, .int d_couldBe, .int d_couldHere])), (p_text, .inl (cI, 250, .inl d_text))] := hD.sub [0, 1] (by decide) rfl
                have hFc := va_free (wc := [(p_this, .inr (6, [.int d_dishes, .int d_speakers, .ref p_speaker, .int d_noises, .ref p_noise, .int d_askers, .ref p_asker, .ref p_st, .ref p_images, .ref p_isKept, .long d_trace, .ref p_text, .int d_texted, .int d_cursor_76, .int d_cursor_26, .int 1, .int d_number, .long d_word_76, .int d_isWrong, .int d_saidDishes, .ref p_saidMount, .int d_saidSpeakers, .ref p_saidSpeaker, .int d_saidNoises, .ref p_saidNoise, .int d_saidAskers, .ref p_saidAsker, .ref p_room, .int d_couldBe, .int d_couldHere])), (p_text, .inl (cI, 250, .inl d_text))]) hD hS hA [0, 1] rfl
                refine va_calli (va_runV (As := [.int d_cursor_76]) (rest := [.long (d_word_76 <<< ((8 : Int32).toInt64 &&& 63)), .ref p_this]) ⟨hx, hb, hml, hown, hts⟩ (c_X6_byteAt l dC dI cI cZ H.size p_asker p_images p_isKept p_noise p_room p_saidAsker p_saidMount p_saidNoise p_saidSpeaker p_speaker p_st p_text p_this d_dishes d_speakers d_noises d_askers d_trace d_texted d_cursor_76 d_cursor_26 1 d_number d_word_76 d_isWrong d_saidDishes d_saidSpeakers d_saidNoises d_saidAskers d_couldBe d_couldHere d_text d_cursor_76 q121 hq121) (cwV 1 hts gX6_next_X6_byteAt rfl rfl rfl (by decide +kernel) ⟨Nat.le_of_ble_eq_true rfl, Nat.le_of_ble_eq_true rfl⟩) ⟨fun a U g mk q => ⟨q.1, PC.mv q.2⟩, va_recv hK hP (ci := 6) (q0 := 0) rfl rfl, fun U hU hW => ⟨rfl, PC.of hU hW hPc hK hDc hN⟩⟩ rfl rfl hl.1 rfl (lv_room (Nat.le_of_ble_eq_true rfl)) dX6_next_121 ⟨Nat.zero_le _, Nat.zero_le _⟩) hS (fun q _ h => hFc q h) hFc (fun r_121 u t H1 locs ht hvm hw hB hz1 hk1 hS => ?_)
                obtain ⟨hP1, hD1⟩ := hB
                try dsimp only at hw
                rw [hw]
                rw [ht] at hP1
                have hP : va_P (dC, dI) vwCl [(p_this, .inr (6, [.int d_dishes, .int d_speakers, .ref p_speaker, .int d_noises, .ref p_noise, .int d_askers, .ref p_asker, .ref p_st, .ref p_images, .ref p_isKept, .long d_trace, .ref p_text, .int d_texted, .int d_cursor_76, .int d_cursor_26, .int 1, .int d_number, .long d_word_76, .int d_isWrong, .int d_saidDishes, .ref p_saidMount, .int d_saidSpeakers, .ref p_saidSpeaker, .int d_saidNoises, .ref p_saidNoise, .int d_saidAskers, .ref p_saidAsker, .ref p_room, .int d_couldBe, .int d_couldHere])), (p_text, .inl (cI, 250, .inl d_text))] H1 := join_ro hP hD [0, 1] rfl hk1 hP1
                clear hPc hDc hFc hk1 hz1 hP1 hD1 ht hvm
                generalize H1 = H at hP hS ⊢
                refine lv_i2l (v := q121.toInt64) hx hb dX6_next_124 rfl ?_
                refine lv_lor hx hb dX6_next_125 ?_
                refine lv_goto (tgt := 130) hx hb dX6_next_126 (by decide) ?_
                exact J130 ((d_word_76 <<< ((8 : Int32).toInt64 &&& 63)) ||| q121.toInt64) H locs hP hD hS ls hl hrun
        exact L76 FU d_cursor_26 0 H locs hP hD hS ls (lv_sub hl [1] rfl) hrun
    · rw [if_neg c_44] at hrun
      refine lv_aload_n hx hb dX6_next_47 rfl (lv_at hl 1 rfl) ?_
      refine lv_iconst (v := 0) hx hb dX6_next_48 (by decide) ?_
      refine va_put (D := (dC, dI)) (ci := 6) (v := .int 0) (ty := .int) (C := RX6) (T := TX6) (N := 30) hx hb hts iwX6 tyX6 tyX6_ok nmX6 hown hK hP hD hS 0 rfl rfl 15 (by decide) (hts (.fieldLink RX6 73 "SkyListenersModel" "token" "I") (by decide +kernel)) (fun _ h9 => h9) rfl (by decide +kernel) rfl rfl (Nat.le_of_ble_eq_true rfl) dX6_next_49 (fun H locs hP hD hS => ?_)
      have hP : va_P (dC, dI) vwCl [(p_this, .inr (6, [.int d_dishes, .int d_speakers, .ref p_speaker, .int d_noises, .ref p_noise, .int d_askers, .ref p_asker, .ref p_st, .ref p_images, .ref p_isKept, .long d_trace, .ref p_text, .int d_texted, .int d_cursor_26, .int d_cursor_26, .int 0, .int d_number, .long d_word, .int d_isWrong, .int d_saidDishes, .ref p_saidMount, .int d_saidSpeakers, .ref p_saidSpeaker, .int d_saidNoises, .ref p_saidNoise, .int d_saidAskers, .ref p_saidAsker, .ref p_room, .int d_couldBe, .int d_couldHere])), (p_text, .inl (cI, 250, .inl d_text))] H := hP
      have hD : va_D A [(p_this, .inr (6, [.int d_dishes, .int d_speakers, .ref p_speaker, .int d_noises, .ref p_noise, .int d_askers, .ref p_asker, .ref p_st, .ref p_images, .ref p_isKept, .long d_trace, .ref p_text, .int d_texted, .int d_cursor_26, .int d_cursor_26, .int 0, .int d_number, .long d_word, .int d_isWrong, .int d_saidDishes, .ref p_saidMount, .int d_saidSpeakers, .ref p_saidSpeaker, .int d_saidNoises, .ref p_saidNoise, .int d_saidAskers, .ref p_saidAsker, .ref p_room, .int d_couldBe, .int d_couldHere])), (p_text, .inl (cI, 250, .inl d_text))] := hD
      refine lv_goto (tgt := 305) hx hb dX6_next_52 (by decide) ?_
      have hrun := Option.some.inj hrun
      subst hrun
      rw [hQ]
      exact W.vret hx hb hr (fun t ht hW => ⟨⟨(), rfl, trivial, by rw [ht]; exact hP, hD⟩, hS.F ht⟩) hS.2.2 dX6_next_305
  have L0 : ∀ (n9_0 : Nat) (d_cursor_0 : Int32) (H : Heap) (locs : List Loc), va_P (dC, dI) vwCl [(p_this, .inr (6, [.int d_dishes, .int d_speakers, .ref p_speaker, .int d_noises, .ref p_noise, .int d_askers, .ref p_asker, .ref p_st, .ref p_images, .ref p_isKept, .long d_trace, .ref p_text, .int d_texted, .int d_cursor_0, .int d_start, .int d_token, .int d_number, .long d_word, .int d_isWrong, .int d_saidDishes, .ref p_saidMount, .int d_saidSpeakers, .ref p_saidSpeaker, .int d_saidNoises, .ref p_saidNoise, .int d_saidAskers, .ref p_saidAsker, .ref p_room, .int d_couldBe, .int d_couldHere])), (p_text, .inl (cI, 250, .inl d_text))] H → va_D A [(p_this, .inr (6, [.int d_dishes, .int d_speakers, .ref p_speaker, .int d_noises, .ref p_noise, .int d_askers, .ref p_asker, .ref p_st, .ref p_images, .ref p_isKept, .long d_trace, .ref p_text, .int d_texted, .int d_cursor_0, .int d_start, .int d_token, .int d_number, .long d_word, .int d_isWrong, .int d_saidDishes, .ref p_saidMount, .int d_saidSpeakers, .ref p_saidSpeaker, .int d_saidNoises, .ref p_saidNoise, .int d_saidAskers, .ref p_saidAsker, .ref p_room, .int d_couldBe, .int d_couldHere])), (p_text, .inl (cI, 250, .inl d_text))] → va_S A s.heap H locs → ∀ ls : Array Slot, lv_has ls 2 [(0, .ref p_this)] → f_X6_next_L0 (f_X6_next_X26 d_texted d_start d_token d_number d_word d_text) d_texted d_start d_token d_number d_word d_text n9_0 d_cursor_0 = some out → W p l e ({ frames := 1, cells := 0, slots := 0, locals := 22 } : Room) s m ([.ref p_this] : List Value).toArray below meth c H locs 0 0 Q (F0 m 0 ls []) := by
    intro n9_0
    induction n9_0 with
    | zero =>
      intro d_cursor_0 H locs hP hD hS ls hl hrun
      rw [f_X6_next_L0] at hrun
      cases hrun
    | succ n9_0 ih0 =>
      intro d_cursor_0 H locs hP hD hS ls hl hrun
      rw [f_X6_next_L0] at hrun
      refine lv_aload_n hx hb dX6_next_0 rfl (lv_at hl 0 rfl) ?_
      refine lv_aload_n hx hb dX6_next_1 rfl (lv_at hl 0 rfl) ?_
      refine va_get (D := (dC, dI)) (ci := 6) (v := .int d_cursor_0) (C := RX6) (T := TX6) (N := 30) hx hb hts iwX6 hown hK hP 0 rfl rfl 13 (by decide) (hts (.fieldLink RX6 63 "SkyListenersModel" "cursor" "I") (by decide +kernel)) (fun _ h9 => h9) rfl dX6_next_2 ?_
      obtain ⟨q5, hq5, hrun⟩ := bind_out hrun
      have hPc : va_P (dC, dI) vwCl [(p_this, .inr (6, [.int d_dishes, .int d_speakers, .ref p_speaker, .int d_noises, .ref p_noise, .int d_askers, .ref p_asker, .ref p_st, .ref p_images, .ref p_isKept, .long d_trace, .ref p_text, .int d_texted, .int d_cursor_0, .int d_start, .int d_token, .int d_number, .long d_word, .int d_isWrong, .int d_saidDishes, .ref p_saidMount, .int d_saidSpeakers, .ref p_saidSpeaker, .int d_saidNoises, .ref p_saidNoise, .int d_saidAskers, .ref p_saidAsker, .ref p_room, .int d_couldBe, .int d_couldHere])), (p_text, .inl (cI, 250, .inl d_text))] H := hP.sub [0, 1] rfl
      have hDc : va_D A [(p_this, .inr (6, [.int d_dishes, .int d_speakers, .ref p_speaker, .int d_noises, .ref p_noise, .int d_askers, .ref p_asker, .ref p_st, .ref p_images, .ref p_isKept, .long d_trace, .ref p_text, .int d_texted, .int d_cursor_0, .int d_start, .int d_token, .int d_number, .long d_word, .int d_isWrong, .int d_saidDishes, .ref p_saidMount, .int d_saidSpeakers, .ref p_saidSpeaker, .int d_saidNoises, .ref p_saidNoise, .int d_saidAskers, .ref p_saidAsker, .ref p_room, .int d_couldBe, .int d_couldHere])), (p_text, .inl (cI, 250, .inl d_text))] := hD.sub [0, 1] (by decide) rfl
      have hFc := va_free (wc := [(p_this, .inr (6, [.int d_dishes, .int d_speakers, .ref p_speaker, .int d_noises, .ref p_noise, .int d_askers, .ref p_asker, .ref p_st, .ref p_images, .ref p_isKept, .long d_trace, .ref p_text, .int d_texted, .int d_cursor_0, .int d_start, .int d_token, .int d_number, .long d_word, .int d_isWrong, .int d_saidDishes, .ref p_saidMount, .int d_saidSpeakers, .ref p_saidSpeaker, .int d_saidNoises, .ref p_saidNoise, .int d_saidAskers, .ref p_saidAsker, .ref p_room, .int d_couldBe, .int d_couldHere])), (p_text, .inl (cI, 250, .inl d_text))]) hD hS hA [0, 1] rfl
      refine va_calli (va_runV (As := [.int d_cursor_0]) (rest := []) ⟨hx, hb, hml, hown, hts⟩ (c_X6_byteAt l dC dI cI cZ H.size p_asker p_images p_isKept p_noise p_room p_saidAsker p_saidMount p_saidNoise p_saidSpeaker p_speaker p_st p_text p_this d_dishes d_speakers d_noises d_askers d_trace d_texted d_cursor_0 d_start d_token d_number d_word d_isWrong d_saidDishes d_saidSpeakers d_saidNoises d_saidAskers d_couldBe d_couldHere d_text d_cursor_0 q5 hq5) (cwV 1 hts gX6_next_X6_byteAt rfl rfl rfl (by decide +kernel) ⟨Nat.le_of_ble_eq_true rfl, Nat.le_of_ble_eq_true rfl⟩) ⟨fun a U g mk q => ⟨q.1, PC.mv q.2⟩, va_recv hK hP (ci := 6) (q0 := 0) rfl rfl, fun U hU hW => ⟨rfl, PC.of hU hW hPc hK hDc hN⟩⟩ rfl rfl hl.1 rfl (lv_room (Nat.le_of_ble_eq_true rfl)) dX6_next_5 ⟨Nat.zero_le _, Nat.zero_le _⟩) hS (fun q _ h => hFc q h) hFc (fun r_5 u t H1 locs ht hvm hw hB hz1 hk1 hS => ?_)
      obtain ⟨hP1, hD1⟩ := hB
      try dsimp only at hw
      rw [hw]
      rw [ht] at hP1
      have hP : va_P (dC, dI) vwCl [(p_this, .inr (6, [.int d_dishes, .int d_speakers, .ref p_speaker, .int d_noises, .ref p_noise, .int d_askers, .ref p_asker, .ref p_st, .ref p_images, .ref p_isKept, .long d_trace, .ref p_text, .int d_texted, .int d_cursor_0, .int d_start, .int d_token, .int d_number, .long d_word, .int d_isWrong, .int d_saidDishes, .ref p_saidMount, .int d_saidSpeakers, .ref p_saidSpeaker, .int d_saidNoises, .ref p_saidNoise, .int d_saidAskers, .ref p_saidAsker, .ref p_room, .int d_couldBe, .int d_couldHere])), (p_text, .inl (cI, 250, .inl d_text))] H1 := join_ro hP hD [0, 1] rfl hk1 hP1
      clear hPc hDc hFc hk1 hz1 hP1 hD1 ht hvm
      generalize H1 = H at hP hS ⊢
      refine lv_bipush (v := 32) hx hb dX6_next_8 (by decide) ?_
      refine lv_icmp_ne (tgt := 26) hx hb dX6_next_10 (by decide) (fun c_10 => ?_) (fun c_10 => ?_)
      · rw [if_neg c_10] at hrun
        exact X26 d_cursor_0 H locs hP hD hS ls hl hrun
      · rw [if_pos c_10] at hrun
        refine lv_aload_n hx hb dX6_next_13 rfl (lv_at hl 0 rfl) ?_
        refine lv_dup hx hb dX6_next_14 rfl ?_
        refine va_get (D := (dC, dI)) (ci := 6) (v := .int d_cursor_0) (C := RX6) (T := TX6) (N := 30) hx hb hts iwX6 hown hK hP 0 rfl rfl 13 (by decide) (hts (.fieldLink RX6 63 "SkyListenersModel" "cursor" "I") (by decide +kernel)) (fun _ h9 => h9) rfl dX6_next_15 ?_
        refine lv_iconst (v := 1) hx hb dX6_next_18 (by decide) ?_
        refine lv_iadd hx hb dX6_next_19 ?_
        refine va_put (D := (dC, dI)) (ci := 6) (v := .int (d_cursor_0 + 1)) (ty := .int) (C := RX6) (T := TX6) (N := 30) hx hb hts iwX6 tyX6 tyX6_ok nmX6 hown hK hP hD hS 0 rfl rfl 13 (by decide) (hts (.fieldLink RX6 63 "SkyListenersModel" "cursor" "I") (by decide +kernel)) (fun _ h9 => h9) rfl (by decide +kernel) rfl rfl (Nat.le_of_ble_eq_true rfl) dX6_next_20 (fun H locs hP hD hS => ?_)
        have hP : va_P (dC, dI) vwCl [(p_this, .inr (6, [.int d_dishes, .int d_speakers, .ref p_speaker, .int d_noises, .ref p_noise, .int d_askers, .ref p_asker, .ref p_st, .ref p_images, .ref p_isKept, .long d_trace, .ref p_text, .int d_texted, .int (d_cursor_0 + 1), .int d_start, .int d_token, .int d_number, .long d_word, .int d_isWrong, .int d_saidDishes, .ref p_saidMount, .int d_saidSpeakers, .ref p_saidSpeaker, .int d_saidNoises, .ref p_saidNoise, .int d_saidAskers, .ref p_saidAsker, .ref p_room, .int d_couldBe, .int d_couldHere])), (p_text, .inl (cI, 250, .inl d_text))] H := hP
        have hD : va_D A [(p_this, .inr (6, [.int d_dishes, .int d_speakers, .ref p_speaker, .int d_noises, .ref p_noise, .int d_askers, .ref p_asker, .ref p_st, .ref p_images, .ref p_isKept, .long d_trace, .ref p_text, .int d_texted, .int (d_cursor_0 + 1), .int d_start, .int d_token, .int d_number, .long d_word, .int d_isWrong, .int d_saidDishes, .ref p_saidMount, .int d_saidSpeakers, .ref p_saidSpeaker, .int d_saidNoises, .ref p_saidNoise, .int d_saidAskers, .ref p_saidAsker, .ref p_room, .int d_couldBe, .int d_couldHere])), (p_text, .inl (cI, 250, .inl d_text))] := hD
        refine lv_goto (tgt := 0) hx hb dX6_next_23 (by decide) ?_
        exact ih0 (d_cursor_0 + 1) H locs hP hD hS ls hl hrun
  exact L0 FU d_cursor H locs hP hD hS ls hl hrun
-- SkyListenersModel.must
def f_X6_must_J17 (d_texted : Int32) (d_cursor : Int32) (d_start : Int32) (d_token : Int32) (d_number : Int32) (d_word : Int64) (d_isWrong : Int32) (d_text : Nat → Int32) (t1 : Int32) : Option (Int32 × Int32 × Int32 × Int32 × Int64 × Int32) := (if t1 = 0 ∨ t1 = 1 then (if t1 = 0 then ((f_X6_next d_texted d_cursor d_start d_token d_number d_word d_text).bind fun q28 => (some (q28.1, q28.2.1, q28.2.2.1, q28.2.2.2.1, q28.2.2.2.2, t1))) else (some (d_cursor, d_start, d_token, d_number, d_word, t1))) else none)
def f_X6_must (d_texted : Int32) (d_cursor : Int32) (d_start : Int32) (d_token : Int32) (d_number : Int32) (d_word : Int64) (d_isWrong : Int32) (d_text : Nat → Int32) (x1 : Int32) : Option (Int32 × Int32 × Int32 × Int32 × Int64 × Int32) := (if d_isWrong = 0 then (if x1 = 0 then (f_X6_must_J17 d_texted d_cursor d_start d_token d_number d_word d_isWrong d_text 1) else (f_X6_must_J17 d_texted d_cursor d_start d_token d_number d_word d_isWrong d_text 0)) else (f_X6_must_J17 d_texted d_cursor d_start d_token d_number d_word d_isWrong d_text 1))
set_option maxHeartbeats 4000000 in
set_option maxRecDepth 100000 in
theorem c_X6_must (l : Launch) (dC : Nat → ClassId) (dI : Nat → Nat → Nat) (cI cZ : ClassId) (sz : Nat) (p_asker p_images p_isKept p_noise p_room p_saidAsker p_saidMount p_saidNoise p_saidSpeaker p_speaker p_st p_text p_this : Nat) (d_dishes : Int32) (d_speakers : Int32) (d_noises : Int32) (d_askers : Int32) (d_trace : Int64) (d_texted : Int32) (d_cursor : Int32) (d_start : Int32) (d_token : Int32) (d_number : Int32) (d_word : Int64) (d_isWrong : Int32) (d_saidDishes : Int32) (d_saidSpeakers : Int32) (d_saidNoises : Int32) (d_saidAskers : Int32) (d_couldBe : Int32) (d_couldHere : Int32) (d_text : Nat → Int32) (x1 : Int32) (out : Int32 × Int32 × Int32 × Int32 × Int64 × Int32) (hrun : f_X6_must d_texted d_cursor d_start d_token d_number d_word d_isWrong d_text x1 = some out) : Met l yX6_must wsX6_must ({ frames := 2, cells := 0, slots := 0, locals := 43 } : Room) (va_Pc [.ref p_this, .int x1] (PC dC dI cI cZ sz ([(p_this, .inr (6, [.int d_dishes, .int d_speakers, .ref p_speaker, .int d_noises, .ref p_noise, .int d_askers, .ref p_asker, .ref p_st, .ref p_images, .ref p_isKept, .long d_trace, .ref p_text, .int d_texted, .int d_cursor, .int d_start, .int d_token, .int d_number, .long d_word, .int d_isWrong, .int d_saidDishes, .ref p_saidMount, .int d_saidSpeakers, .ref p_saidSpeaker, .int d_saidNoises, .ref p_saidNoise, .int d_saidAskers, .ref p_saidAsker, .ref p_room, .int d_couldBe, .int d_couldHere])), (p_text, .inl (cI, 250, .inl d_text))] : va_W))) (va_Qv (fun (_ : Unit) => True) (fun _ t => va_P (dC, dI) vwCl [(p_this, .inr (6, [.int d_dishes, .int d_speakers, .ref p_speaker, .int d_noises, .ref p_noise, .int d_askers, .ref p_asker, .ref p_st, .ref p_images, .ref p_isKept, .long d_trace, .ref p_text, .int d_texted, .int out.1, .int out.2.1, .int out.2.2.1, .int out.2.2.2.1, .long out.2.2.2.2.1, .int out.2.2.2.2.2, .int d_saidDishes, .ref p_saidMount, .int d_saidSpeakers, .ref p_saidSpeaker, .int d_saidNoises, .ref p_saidNoise, .int d_saidAskers, .ref p_saidAsker, .ref p_room, .int d_couldBe, .int d_couldHere])), (p_text, .inl (cI, 250, .inl d_text))] t.heap ∧ va_D (va_A ([(p_this, .inr (6, [.int d_dishes, .int d_speakers, .ref p_speaker, .int d_noises, .ref p_noise, .int d_askers, .ref p_asker, .ref p_st, .ref p_images, .ref p_isKept, .long d_trace, .ref p_text, .int d_texted, .int d_cursor, .int d_start, .int d_token, .int d_number, .long d_word, .int d_isWrong, .int d_saidDishes, .ref p_saidMount, .int d_saidSpeakers, .ref p_saidSpeaker, .int d_saidNoises, .ref p_saidNoise, .int d_saidAskers, .ref p_saidAsker, .ref p_room, .int d_couldBe, .int d_couldHere])), (p_text, .inl (cI, 250, .inl d_text))] : va_W) sz) [(p_this, .inr (6, [.int d_dishes, .int d_speakers, .ref p_speaker, .int d_noises, .ref p_noise, .int d_askers, .ref p_asker, .ref p_st, .ref p_images, .ref p_isKept, .long d_trace, .ref p_text, .int d_texted, .int out.1, .int out.2.1, .int out.2.2.1, .int out.2.2.2.1, .long out.2.2.2.2.1, .int out.2.2.2.2.2, .int d_saidDishes, .ref p_saidMount, .int d_saidSpeakers, .ref p_saidSpeaker, .int d_saidNoises, .ref p_saidNoise, .int d_saidAskers, .ref p_saidAsker, .ref p_room, .int d_couldBe, .int d_couldHere])), (p_text, .inl (cI, 250, .inl d_text))]) (va_A ([(p_this, .inr (6, [.int d_dishes, .int d_speakers, .ref p_speaker, .int d_noises, .ref p_noise, .int d_askers, .ref p_asker, .ref p_st, .ref p_images, .ref p_isKept, .long d_trace, .ref p_text, .int d_texted, .int d_cursor, .int d_start, .int d_token, .int d_number, .long d_word, .int d_isWrong, .int d_saidDishes, .ref p_saidMount, .int d_saidSpeakers, .ref p_saidSpeaker, .int d_saidNoises, .ref p_saidNoise, .int d_saidAskers, .ref p_saidAsker, .ref p_room, .int d_couldBe, .int d_couldHere])), (p_text, .inl (cI, 250, .inl d_text))] : va_W) sz)) 0 0 (va_A ([(p_this, .inr (6, [.int d_dishes, .int d_speakers, .ref p_speaker, .int d_noises, .ref p_noise, .int d_askers, .ref p_asker, .ref p_st, .ref p_images, .ref p_isKept, .long d_trace, .ref p_text, .int d_texted, .int d_cursor, .int d_start, .int d_token, .int d_number, .long d_word, .int d_isWrong, .int d_saidDishes, .ref p_saidMount, .int d_saidSpeakers, .ref p_saidSpeaker, .int d_saidNoises, .ref p_saidNoise, .int d_saidAskers, .ref p_saidAsker, .ref p_room, .int d_couldBe, .int d_couldHere])), (p_text, .inl (cI, 250, .inl d_text))] : va_W) sz) := by
  refine Met.ofW (cc := cX6_must) (maxL := 2) (ret := none) (by decide) rfl ?_
  intro p e s m args below meth c s₁ B hml hv
  obtain ⟨rfl, hsz, hP, hK, hD0, hN⟩ := hv
  have hx := B.exec
  have hb := B.bytes
  have hr := B.returns
  have hts := atoms_spec (ws := wsX6_must) B.pre
  have hown : s.vm.findClass RX6 = some m.cls := findClass_of_methodNamed B.named
  have hlocks := B.notSynchronized
  subst hsz
  have hD := hD0.self (sz := s.heap.size)
  generalize hAe : va_A ([(p_this, .inr (6, [.int d_dishes, .int d_speakers, .ref p_speaker, .int d_noises, .ref p_noise, .int d_askers, .ref p_asker, .ref p_st, .ref p_images, .ref p_isKept, .long d_trace, .ref p_text, .int d_texted, .int d_cursor, .int d_start, .int d_token, .int d_number, .long d_word, .int d_isWrong, .int d_saidDishes, .ref p_saidMount, .int d_saidSpeakers, .ref p_saidSpeaker, .int d_saidNoises, .ref p_saidNoise, .int d_saidAskers, .ref p_saidAsker, .ref p_room, .int d_couldBe, .int d_couldHere])), (p_text, .inl (cI, 250, .inl d_text))] : va_W) s.heap.size = A at hD ⊢
  have hA : ∀ q : Nat, s.heap.size ≤ q → A q := fun q h => by rw [← hAe]; exact Or.inr h
  have hS : va_S A s.heap s.heap [] := va_S.rf
  refine W_abs (fun Q hQ => ?_)
  have hl := lv_entry ([.ref p_this, .int x1]) (n := 2) (Nat.le_of_ble_eq_true rfl)
  rw [lg_entry_eq]
  generalize (lg_sl ([.ref p_this, .int x1]) ++ List.replicate (2 - (lg_sl ([.ref p_this, .int x1])).length) Slot.unset).toArray = ls at hl ⊢
  have hl : lv_has ls 2 [(0, .ref p_this), (1, .int x1)] := hl
  rw [f_X6_must] at hrun
  refine W_start (ws := [(p_this, .inr (6, [.int d_dishes, .int d_speakers, .ref p_speaker, .int d_noises, .ref p_noise, .int d_askers, .ref p_asker, .ref p_st, .ref p_images, .ref p_isKept, .long d_trace, .ref p_text, .int d_texted, .int d_cursor, .int d_start, .int d_token, .int d_number, .long d_word, .int d_isWrong, .int d_saidDishes, .ref p_saidMount, .int d_saidSpeakers, .ref p_saidSpeaker, .int d_saidNoises, .ref p_saidNoise, .int d_saidAskers, .ref p_saidAsker, .ref p_room, .int d_couldBe, .int d_couldHere])), (p_text, .inl (cI, 250, .inl d_text))]) hP hS (fun H locs hP hS => ?_)
  have iwX6 : ∀ w ∈ wsX60, w ∈ wsX6_must := by decide +kernel
  refine lv_aload_n hx hb dX6_must_0 rfl (lv_at hl 0 rfl) ?_
  refine lv_aload_n hx hb dX6_must_1 rfl (lv_at hl 0 rfl) ?_
  refine va_get (D := (dC, dI)) (ci := 6) (v := .int d_isWrong) (C := RX6) (T := TX6) (N := 30) hx hb hts iwX6 hown hK hP 0 rfl rfl 18 (by decide) (hts (.fieldLink RX6 83 "SkyListenersModel" "isWrong" "Z") (by decide +kernel)) (fun _ h9 => h9) rfl dX6_must_2 ?_
  have J17 : ∀ (t1_17 : Int32) (H : Heap) (locs : List Loc), va_P (dC, dI) vwCl [(p_this, .inr (6, [.int d_dishes, .int d_speakers, .ref p_speaker, .int d_noises, .ref p_noise, .int d_askers, .ref p_asker, .ref p_st, .ref p_images, .ref p_isKept, .long d_trace, .ref p_text, .int d_texted, .int d_cursor, .int d_start, .int d_token, .int d_number, .long d_word, .int d_isWrong, .int d_saidDishes, .ref p_saidMount, .int d_saidSpeakers, .ref p_saidSpeaker, .int d_saidNoises, .ref p_saidNoise, .int d_saidAskers, .ref p_saidAsker, .ref p_room, .int d_couldBe, .int d_couldHere])), (p_text, .inl (cI, 250, .inl d_text))] H → va_D A [(p_this, .inr (6, [.int d_dishes, .int d_speakers, .ref p_speaker, .int d_noises, .ref p_noise, .int d_askers, .ref p_asker, .ref p_st, .ref p_images, .ref p_isKept, .long d_trace, .ref p_text, .int d_texted, .int d_cursor, .int d_start, .int d_token, .int d_number, .long d_word, .int d_isWrong, .int d_saidDishes, .ref p_saidMount, .int d_saidSpeakers, .ref p_saidSpeaker, .int d_saidNoises, .ref p_saidNoise, .int d_saidAskers, .ref p_saidAsker, .ref p_room, .int d_couldBe, .int d_couldHere])), (p_text, .inl (cI, 250, .inl d_text))] → va_S A s.heap H locs → ∀ ls : Array Slot, lv_has ls 2 [(0, .ref p_this)] → f_X6_must_J17 d_texted d_cursor d_start d_token d_number d_word d_isWrong d_text t1_17 = some out → W p l e ({ frames := 2, cells := 0, slots := 0, locals := 43 } : Room) s m ([.ref p_this, .int x1] : List Value).toArray below meth c H locs 0 0 Q (F0 m 17 ls [.int t1_17, .ref p_this]) := by
    intro t1_17 H locs hP hD hS ls hl hrun
    rw [f_X6_must_J17] at hrun
    rcases Classical.em (¬ (t1_17 = 0 ∨ t1_17 = 1)) with g_17 | g_17
    · rw [if_neg g_17] at hrun; cases hrun
    have g_17 := Classical.not_not.mp g_17
    rw [if_pos g_17] at hrun
    refine va_put (D := (dC, dI)) (ci := 6) (v := .int t1_17) (ty := .boolean) (C := RX6) (T := TX6) (N := 30) hx hb hts iwX6 tyX6 tyX6_ok nmX6 hown hK hP hD hS 0 rfl rfl 18 (by decide) (hts (.fieldLink RX6 83 "SkyListenersModel" "isWrong" "Z") (by decide +kernel)) (fun _ h9 => h9) rfl (by decide +kernel) (nar_b g_17) (fit_b g_17) (Nat.le_of_ble_eq_true rfl) dX6_must_17 (fun H locs hP hD hS => ?_)
    have hP : va_P (dC, dI) vwCl [(p_this, .inr (6, [.int d_dishes, .int d_speakers, .ref p_speaker, .int d_noises, .ref p_noise, .int d_askers, .ref p_asker, .ref p_st, .ref p_images, .ref p_isKept, .long d_trace, .ref p_text, .int d_texted, .int d_cursor, .int d_start, .int d_token, .int d_number, .long d_word, .int t1_17, .int d_saidDishes, .ref p_saidMount, .int d_saidSpeakers, .ref p_saidSpeaker, .int d_saidNoises, .ref p_saidNoise, .int d_saidAskers, .ref p_saidAsker, .ref p_room, .int d_couldBe, .int d_couldHere])), (p_text, .inl (cI, 250, .inl d_text))] H := hP
    have hD : va_D A [(p_this, .inr (6, [.int d_dishes, .int d_speakers, .ref p_speaker, .int d_noises, .ref p_noise, .int d_askers, .ref p_asker, .ref p_st, .ref p_images, .ref p_isKept, .long d_trace, .ref p_text, .int d_texted, .int d_cursor, .int d_start, .int d_token, .int d_number, .long d_word, .int t1_17, .int d_saidDishes, .ref p_saidMount, .int d_saidSpeakers, .ref p_saidSpeaker, .int d_saidNoises, .ref p_saidNoise, .int d_saidAskers, .ref p_saidAsker, .ref p_room, .int d_couldBe, .int d_couldHere])), (p_text, .inl (cI, 250, .inl d_text))] := hD
    refine lv_aload_n hx hb dX6_must_20 rfl (lv_at hl 0 rfl) ?_
    refine va_get (D := (dC, dI)) (ci := 6) (v := .int t1_17) (C := RX6) (T := TX6) (N := 30) hx hb hts iwX6 hown hK hP 0 rfl rfl 18 (by decide) (hts (.fieldLink RX6 83 "SkyListenersModel" "isWrong" "Z") (by decide +kernel)) (fun _ h9 => h9) rfl dX6_must_21 ?_
    refine lv_if_ne (tgt := 31) hx hb dX6_must_24 (by decide) (fun c_24 => ?_) (fun c_24 => ?_)
    · rw [if_neg c_24] at hrun
      have hrun := Option.some.inj hrun
      subst hrun
      rw [hQ]
      exact W.vret hx hb hr (fun t ht hW => ⟨⟨(), rfl, trivial, by rw [ht]; exact hP, hD⟩, hS.F ht⟩) hS.2.2 dX6_must_31
    · rw [if_pos c_24] at hrun
      refine lv_aload_n hx hb dX6_must_27 rfl (lv_at hl 0 rfl) ?_
      obtain ⟨q28, hq28, hrun⟩ := bind_out hrun
      have hPc : va_P (dC, dI) vwCl [(p_this, .inr (6, [.int d_dishes, .int d_speakers, .ref p_speaker, .int d_noises, .ref p_noise, .int d_askers, .ref p_asker, .ref p_st, .ref p_images, .ref p_isKept, .long d_trace, .ref p_text, .int d_texted, .int d_cursor, .int d_start, .int d_token, .int d_number, .long d_word, .int t1_17, .int d_saidDishes, .ref p_saidMount, .int d_saidSpeakers, .ref p_saidSpeaker, .int d_saidNoises, .ref p_saidNoise, .int d_saidAskers, .ref p_saidAsker, .ref p_room, .int d_couldBe, .int d_couldHere])), (p_text, .inl (cI, 250, .inl d_text))] H := hP.sub [0, 1] rfl
      have hDc : va_D A [(p_this, .inr (6, [.int d_dishes, .int d_speakers, .ref p_speaker, .int d_noises, .ref p_noise, .int d_askers, .ref p_asker, .ref p_st, .ref p_images, .ref p_isKept, .long d_trace, .ref p_text, .int d_texted, .int d_cursor, .int d_start, .int d_token, .int d_number, .long d_word, .int t1_17, .int d_saidDishes, .ref p_saidMount, .int d_saidSpeakers, .ref p_saidSpeaker, .int d_saidNoises, .ref p_saidNoise, .int d_saidAskers, .ref p_saidAsker, .ref p_room, .int d_couldBe, .int d_couldHere])), (p_text, .inl (cI, 250, .inl d_text))] := hD.sub [0, 1] (by decide) rfl
      have hFc := va_free (wc := [(p_this, .inr (6, [.int d_dishes, .int d_speakers, .ref p_speaker, .int d_noises, .ref p_noise, .int d_askers, .ref p_asker, .ref p_st, .ref p_images, .ref p_isKept, .long d_trace, .ref p_text, .int d_texted, .int d_cursor, .int d_start, .int d_token, .int d_number, .long d_word, .int t1_17, .int d_saidDishes, .ref p_saidMount, .int d_saidSpeakers, .ref p_saidSpeaker, .int d_saidNoises, .ref p_saidNoise, .int d_saidAskers, .ref p_saidAsker, .ref p_room, .int d_couldBe, .int d_couldHere])), (p_text, .inl (cI, 250, .inl d_text))]) hD hS hA [0, 1] rfl
      refine va_callv (va_runV (As := []) (rest := []) ⟨hx, hb, hml, hown, hts⟩ (c_X6_next l dC dI cI cZ H.size p_asker p_images p_isKept p_noise p_room p_saidAsker p_saidMount p_saidNoise p_saidSpeaker p_speaker p_st p_text p_this d_dishes d_speakers d_noises d_askers d_trace d_texted d_cursor d_start d_token d_number d_word t1_17 d_saidDishes d_saidSpeakers d_saidNoises d_saidAskers d_couldBe d_couldHere d_text q28 hq28) (cwV 0 hts gX6_must_X6_next rfl rfl rfl (by decide +kernel) ⟨Nat.le_of_ble_eq_true rfl, Nat.le_of_ble_eq_true rfl⟩) ⟨fun a U g mk q => ⟨q.1, PC.mv q.2⟩, va_recv hK hP (ci := 6) (q0 := 0) rfl rfl, fun U hU hW => ⟨rfl, PC.of hU hW hPc hK hDc hN⟩⟩ rfl rfl hl.1 rfl (lv_room (Nat.le_of_ble_eq_true rfl)) dX6_must_28 ⟨Nat.zero_le _, Nat.zero_le _⟩) hS (fun q _ h => hFc q h) hFc (fun u t H1 locs ht hvm hw hB hz1 hk1 hS => ?_)
      obtain ⟨hP1, hD1⟩ := hB
      rw [ht] at hP1
      obtain ⟨hP, hD⟩ := va_join (wr := []) (w1 := [(p_this, .inr (6, [.int d_dishes, .int d_speakers, .ref p_speaker, .int d_noises, .ref p_noise, .int d_askers, .ref p_asker, .ref p_st, .ref p_images, .ref p_isKept, .long d_trace, .ref p_text, .int d_texted, .int q28.1, .int q28.2.1, .int q28.2.2.1, .int q28.2.2.2.1, .long q28.2.2.2.2, .int t1_17, .int d_saidDishes, .ref p_saidMount, .int d_saidSpeakers, .ref p_saidSpeaker, .int d_saidNoises, .ref p_saidNoise, .int d_saidAskers, .ref p_saidAsker, .ref p_room, .int d_couldBe, .int d_couldHere])), (p_text, .inl (cI, 250, .inl d_text))]) hP hD [0, 1] [] rfl rfl (by decide) (by decide) hk1 hFc hP1 hD1
      have hP : va_P (dC, dI) vwCl [(p_this, .inr (6, [.int d_dishes, .int d_speakers, .ref p_speaker, .int d_noises, .ref p_noise, .int d_askers, .ref p_asker, .ref p_st, .ref p_images, .ref p_isKept, .long d_trace, .ref p_text, .int d_texted, .int q28.1, .int q28.2.1, .int q28.2.2.1, .int q28.2.2.2.1, .long q28.2.2.2.2, .int t1_17, .int d_saidDishes, .ref p_saidMount, .int d_saidSpeakers, .ref p_saidSpeaker, .int d_saidNoises, .ref p_saidNoise, .int d_saidAskers, .ref p_saidAsker, .ref p_room, .int d_couldBe, .int d_couldHere])), (p_text, .inl (cI, 250, .inl d_text))] H1 := hP.sub [0, 1] rfl
      have hD : va_D A [(p_this, .inr (6, [.int d_dishes, .int d_speakers, .ref p_speaker, .int d_noises, .ref p_noise, .int d_askers, .ref p_asker, .ref p_st, .ref p_images, .ref p_isKept, .long d_trace, .ref p_text, .int d_texted, .int q28.1, .int q28.2.1, .int q28.2.2.1, .int q28.2.2.2.1, .long q28.2.2.2.2, .int t1_17, .int d_saidDishes, .ref p_saidMount, .int d_saidSpeakers, .ref p_saidSpeaker, .int d_saidNoises, .ref p_saidNoise, .int d_saidAskers, .ref p_saidAsker, .ref p_room, .int d_couldBe, .int d_couldHere])), (p_text, .inl (cI, 250, .inl d_text))] := hD.sub [0, 1] (by decide) rfl
      clear hPc hDc hFc hk1 hz1 hP1 hD1 ht hvm
      generalize H1 = H at hP hS ⊢
      have hrun := Option.some.inj hrun
      subst hrun
      rw [hQ]
      exact W.vret hx hb hr (fun t ht hW => ⟨⟨(), rfl, trivial, by rw [ht]; exact hP, hD⟩, hS.F ht⟩) hS.2.2 dX6_must_31
  refine lv_if_ne (tgt := 12) hx hb dX6_must_5 (by decide) (fun c_5 => ?_) (fun c_5 => ?_)
  · rw [if_neg c_5] at hrun
    refine lv_iconst (v := 1) hx hb dX6_must_12 (by decide) ?_
    refine lv_goto (tgt := 17) hx hb dX6_must_13 (by decide) ?_
    exact J17 1 H locs hP hD hS ls (lv_sub hl [0] rfl) hrun
  · rw [if_pos c_5] at hrun
    refine lv_iload_n hx hb dX6_must_8 rfl (lv_at hl 1 rfl) ?_
    refine lv_if_ne (tgt := 16) hx hb dX6_must_9 (by decide) (fun c_9 => ?_) (fun c_9 => ?_)
    · rw [if_neg c_9] at hrun
      refine lv_iconst (v := 0) hx hb dX6_must_16 (by decide) ?_
      exact J17 0 H locs hP hD hS ls (lv_sub hl [0] rfl) hrun
    · rw [if_pos c_9] at hrun
      refine lv_iconst (v := 1) hx hb dX6_must_12 (by decide) ?_
      refine lv_goto (tgt := 17) hx hb dX6_must_13 (by decide) ?_
      exact J17 1 H locs hP hD hS ls (lv_sub hl [0] rfl) hrun
-- SkyListenersModel.readInto
def f_X6_readInto_J31 (n_a1 : Nat) (x2 : Int32) (x5 : Int32) (d_a1 : Nat → Int32) (d_texted : Int32) (d_cursor : Int32) (d_start : Int32) (d_token : Int32) (d_number : Int32) (d_word : Int64) (d_isWrong : Int32) (d_text : Nat → Int32) (t1 : Int32) : Option (Int32 × (Nat → Int32) × Int32 × Int32 × Int32 × Int32 × Int64 × Int32) := ((f_X6_must d_texted d_cursor d_start d_token d_number d_word d_isWrong d_text t1).bind fun q31 => (if q31.2.2.2.2.2 = 0 then (if x2 < 0 ∨ n_a1 ≤ x2.toNatClampNeg then none else (some (x5, upd d_a1 x2.toNatClampNeg x5, q31.1, q31.2.1, q31.2.2.1, q31.2.2.2.1, q31.2.2.2.2.1, q31.2.2.2.2.2))) else (some (x5, d_a1, q31.1, q31.2.1, q31.2.2.1, q31.2.2.2.1, q31.2.2.2.2.1, q31.2.2.2.2.2))))
def f_X6_readInto (n_a1 : Nat) (d_a1 : Nat → Int32) (d_texted : Int32) (d_cursor : Int32) (d_start : Int32) (d_token : Int32) (d_number : Int32) (d_word : Int64) (d_isWrong : Int32) (d_text : Nat → Int32) (x2 : Int32) (x3 : Int32) (x4 : Int32) : Option (Int32 × (Nat → Int32) × Int32 × Int32 × Int32 × Int32 × Int64 × Int32) := (if d_token = 2 then (if (f_X6_in d_number x3 x4) = 0 then (f_X6_readInto_J31 n_a1 x2 d_number d_a1 d_texted d_cursor d_start d_token d_number d_word d_isWrong d_text 0) else (f_X6_readInto_J31 n_a1 x2 d_number d_a1 d_texted d_cursor d_start d_token d_number d_word d_isWrong d_text 1)) else (f_X6_readInto_J31 n_a1 x2 d_number d_a1 d_texted d_cursor d_start d_token d_number d_word d_isWrong d_text 0))
set_option maxHeartbeats 4000000 in
set_option maxRecDepth 100000 in
theorem c_X6_readInto (l : Launch) (dC : Nat → ClassId) (dI : Nat → Nat → Nat) (cI cZ : ClassId) (sz : Nat) (p_a1 p_asker p_images p_isKept p_noise p_room p_saidAsker p_saidMount p_saidNoise p_saidSpeaker p_speaker p_st p_text p_this : Nat) (n_a1 : Nat) (d_a1 : Nat → Int32) (d_dishes : Int32) (d_speakers : Int32) (d_noises : Int32) (d_askers : Int32) (d_trace : Int64) (d_texted : Int32) (d_cursor : Int32) (d_start : Int32) (d_token : Int32) (d_number : Int32) (d_word : Int64) (d_isWrong : Int32) (d_saidDishes : Int32) (d_saidSpeakers : Int32) (d_saidNoises : Int32) (d_saidAskers : Int32) (d_couldBe : Int32) (d_couldHere : Int32) (d_text : Nat → Int32) (x2 : Int32) (x3 : Int32) (x4 : Int32) (hn_a1 : n_a1 < 2 ^ 31) (out : Int32 × (Nat → Int32) × Int32 × Int32 × Int32 × Int32 × Int64 × Int32) (hrun : f_X6_readInto n_a1 d_a1 d_texted d_cursor d_start d_token d_number d_word d_isWrong d_text x2 x3 x4 = some out) : Met l yX6_readInto wsX6_readInto ({ frames := 3, cells := 0, slots := 0, locals := 64 } : Room) (va_Pc [.ref p_this, .ref p_a1, .int x2, .int x3, .int x4] (PC dC dI cI cZ sz ([(p_a1, .inl (cI, n_a1, .inl d_a1)), (p_this, .inr (6, [.int d_dishes, .int d_speakers, .ref p_speaker, .int d_noises, .ref p_noise, .int d_askers, .ref p_asker, .ref p_st, .ref p_images, .ref p_isKept, .long d_trace, .ref p_text, .int d_texted, .int d_cursor, .int d_start, .int d_token, .int d_number, .long d_word, .int d_isWrong, .int d_saidDishes, .ref p_saidMount, .int d_saidSpeakers, .ref p_saidSpeaker, .int d_saidNoises, .ref p_saidNoise, .int d_saidAskers, .ref p_saidAsker, .ref p_room, .int d_couldBe, .int d_couldHere])), (p_text, .inl (cI, 250, .inl d_text))] : va_W))) (va_Qi (fun r (_ : Unit) => r = out.1) (fun _ t => va_P (dC, dI) vwCl [(p_a1, .inl (cI, n_a1, .inl out.2.1)), (p_this, .inr (6, [.int d_dishes, .int d_speakers, .ref p_speaker, .int d_noises, .ref p_noise, .int d_askers, .ref p_asker, .ref p_st, .ref p_images, .ref p_isKept, .long d_trace, .ref p_text, .int d_texted, .int out.2.2.1, .int out.2.2.2.1, .int out.2.2.2.2.1, .int out.2.2.2.2.2.1, .long out.2.2.2.2.2.2.1, .int out.2.2.2.2.2.2.2, .int d_saidDishes, .ref p_saidMount, .int d_saidSpeakers, .ref p_saidSpeaker, .int d_saidNoises, .ref p_saidNoise, .int d_saidAskers, .ref p_saidAsker, .ref p_room, .int d_couldBe, .int d_couldHere])), (p_text, .inl (cI, 250, .inl d_text))] t.heap ∧ va_D (va_A ([(p_a1, .inl (cI, n_a1, .inl d_a1)), (p_this, .inr (6, [.int d_dishes, .int d_speakers, .ref p_speaker, .int d_noises, .ref p_noise, .int d_askers, .ref p_asker, .ref p_st, .ref p_images, .ref p_isKept, .long d_trace, .ref p_text, .int d_texted, .int d_cursor, .int d_start, .int d_token, .int d_number, .long d_word, .int d_isWrong, .int d_saidDishes, .ref p_saidMount, .int d_saidSpeakers, .ref p_saidSpeaker, .int d_saidNoises, .ref p_saidNoise, .int d_saidAskers, .ref p_saidAsker, .ref p_room, .int d_couldBe, .int d_couldHere])), (p_text, .inl (cI, 250, .inl d_text))] : va_W) sz) [(p_a1, .inl (cI, n_a1, .inl out.2.1)), (p_this, .inr (6, [.int d_dishes, .int d_speakers, .ref p_speaker, .int d_noises, .ref p_noise, .int d_askers, .ref p_asker, .ref p_st, .ref p_images, .ref p_isKept, .long d_trace, .ref p_text, .int d_texted, .int out.2.2.1, .int out.2.2.2.1, .int out.2.2.2.2.1, .int out.2.2.2.2.2.1, .long out.2.2.2.2.2.2.1, .int out.2.2.2.2.2.2.2, .int d_saidDishes, .ref p_saidMount, .int d_saidSpeakers, .ref p_saidSpeaker, .int d_saidNoises, .ref p_saidNoise, .int d_saidAskers, .ref p_saidAsker, .ref p_room, .int d_couldBe, .int d_couldHere])), (p_text, .inl (cI, 250, .inl d_text))]) (va_A ([(p_a1, .inl (cI, n_a1, .inl d_a1)), (p_this, .inr (6, [.int d_dishes, .int d_speakers, .ref p_speaker, .int d_noises, .ref p_noise, .int d_askers, .ref p_asker, .ref p_st, .ref p_images, .ref p_isKept, .long d_trace, .ref p_text, .int d_texted, .int d_cursor, .int d_start, .int d_token, .int d_number, .long d_word, .int d_isWrong, .int d_saidDishes, .ref p_saidMount, .int d_saidSpeakers, .ref p_saidSpeaker, .int d_saidNoises, .ref p_saidNoise, .int d_saidAskers, .ref p_saidAsker, .ref p_room, .int d_couldBe, .int d_couldHere])), (p_text, .inl (cI, 250, .inl d_text))] : va_W) sz)) 0 0 (va_A ([(p_a1, .inl (cI, n_a1, .inl d_a1)), (p_this, .inr (6, [.int d_dishes, .int d_speakers, .ref p_speaker, .int d_noises, .ref p_noise, .int d_askers, .ref p_asker, .ref p_st, .ref p_images, .ref p_isKept, .long d_trace, .ref p_text, .int d_texted, .int d_cursor, .int d_start, .int d_token, .int d_number, .long d_word, .int d_isWrong, .int d_saidDishes, .ref p_saidMount, .int d_saidSpeakers, .ref p_saidSpeaker, .int d_saidNoises, .ref p_saidNoise, .int d_saidAskers, .ref p_saidAsker, .ref p_room, .int d_couldBe, .int d_couldHere])), (p_text, .inl (cI, 250, .inl d_text))] : va_W) sz) := by
  refine Met.ofW (cc := cX6_readInto) (maxL := 6) (ret := (some .int)) (by decide) rfl ?_
  intro p e s m args below meth c s₁ B hml hv
  obtain ⟨rfl, hsz, hP, hK, hD0, hN⟩ := hv
  have hx := B.exec
  have hb := B.bytes
  have hr := B.returns
  have hts := atoms_spec (ws := wsX6_readInto) B.pre
  have hown : s.vm.findClass RX6 = some m.cls := findClass_of_methodNamed B.named
  have hlocks := B.notSynchronized
  subst hsz
  have hD := hD0.self (sz := s.heap.size)
  generalize hAe : va_A ([(p_a1, .inl (cI, n_a1, .inl d_a1)), (p_this, .inr (6, [.int d_dishes, .int d_speakers, .ref p_speaker, .int d_noises, .ref p_noise, .int d_askers, .ref p_asker, .ref p_st, .ref p_images, .ref p_isKept, .long d_trace, .ref p_text, .int d_texted, .int d_cursor, .int d_start, .int d_token, .int d_number, .long d_word, .int d_isWrong, .int d_saidDishes, .ref p_saidMount, .int d_saidSpeakers, .ref p_saidSpeaker, .int d_saidNoises, .ref p_saidNoise, .int d_saidAskers, .ref p_saidAsker, .ref p_room, .int d_couldBe, .int d_couldHere])), (p_text, .inl (cI, 250, .inl d_text))] : va_W) s.heap.size = A at hD ⊢
  have hA : ∀ q : Nat, s.heap.size ≤ q → A q := fun q h => by rw [← hAe]; exact Or.inr h
  have hS : va_S A s.heap s.heap [] := va_S.rf
  refine W_abs (fun Q hQ => ?_)
  have hl := lv_entry ([.ref p_this, .ref p_a1, .int x2, .int x3, .int x4]) (n := 6) (Nat.le_of_ble_eq_true rfl)
  rw [lg_entry_eq]
  generalize (lg_sl ([.ref p_this, .ref p_a1, .int x2, .int x3, .int x4]) ++ List.replicate (6 - (lg_sl ([.ref p_this, .ref p_a1, .int x2, .int x3, .int x4])).length) Slot.unset).toArray = ls at hl ⊢
  have hl : lv_has ls 6 [(0, .ref p_this), (1, .ref p_a1), (2, .int x2), (3, .int x3), (4, .int x4)] := hl
  rw [f_X6_readInto] at hrun
  refine W_start (ws := [(p_a1, .inl (cI, n_a1, .inl d_a1)), (p_this, .inr (6, [.int d_dishes, .int d_speakers, .ref p_speaker, .int d_noises, .ref p_noise, .int d_askers, .ref p_asker, .ref p_st, .ref p_images, .ref p_isKept, .long d_trace, .ref p_text, .int d_texted, .int d_cursor, .int d_start, .int d_token, .int d_number, .long d_word, .int d_isWrong, .int d_saidDishes, .ref p_saidMount, .int d_saidSpeakers, .ref p_saidSpeaker, .int d_saidNoises, .ref p_saidNoise, .int d_saidAskers, .ref p_saidAsker, .ref p_room, .int d_couldBe, .int d_couldHere])), (p_text, .inl (cI, 250, .inl d_text))]) hP hS (fun H locs hP hS => ?_)
  have iwX6 : ∀ w ∈ wsX60, w ∈ wsX6_readInto := by decide +kernel
  refine lv_aload_n hx hb dX6_readInto_0 rfl (lv_at hl 0 rfl) ?_
  refine va_get (D := (dC, dI)) (ci := 6) (v := .int d_number) (C := RX6) (T := TX6) (N := 30) hx hb hts iwX6 hown hK hP 1 rfl rfl 16 (by decide) (hts (.fieldLink RX6 80 "SkyListenersModel" "number" "I") (by decide +kernel)) (fun _ h9 => h9) rfl dX6_readInto_1 ?_
  refine lv_istore (lv' := [(5, .int d_number), (0, .ref p_this), (1, .ref p_a1), (2, .int x2), (3, .int x3), (4, .int x4)]) hx hb dX6_readInto_4 hl (by decide) rfl (fun ls hl => ?_)
  refine lv_aload_n hx hb dX6_readInto_6 rfl (lv_at hl 1 rfl) ?_
  refine lv_aload_n hx hb dX6_readInto_7 rfl (lv_at hl 1 rfl) ?_
  refine va_get (D := (dC, dI)) (ci := 6) (v := .int d_token) (C := RX6) (T := TX6) (N := 30) hx hb hts iwX6 hown hK hP 1 rfl rfl 15 (by decide) (hts (.fieldLink RX6 73 "SkyListenersModel" "token" "I") (by decide +kernel)) (fun _ h9 => h9) rfl dX6_readInto_8 ?_
  refine lv_iconst (v := 2) hx hb dX6_readInto_11 (by decide) ?_
  have J31 : ∀ (t1_31 : Int32) (H : Heap) (locs : List Loc), va_P (dC, dI) vwCl [(p_a1, .inl (cI, n_a1, .inl d_a1)), (p_this, .inr (6, [.int d_dishes, .int d_speakers, .ref p_speaker, .int d_noises, .ref p_noise, .int d_askers, .ref p_asker, .ref p_st, .ref p_images, .ref p_isKept, .long d_trace, .ref p_text, .int d_texted, .int d_cursor, .int d_start, .int d_token, .int d_number, .long d_word, .int d_isWrong, .int d_saidDishes, .ref p_saidMount, .int d_saidSpeakers, .ref p_saidSpeaker, .int d_saidNoises, .ref p_saidNoise, .int d_saidAskers, .ref p_saidAsker, .ref p_room, .int d_couldBe, .int d_couldHere])), (p_text, .inl (cI, 250, .inl d_text))] H → va_D A [(p_a1, .inl (cI, n_a1, .inl d_a1)), (p_this, .inr (6, [.int d_dishes, .int d_speakers, .ref p_speaker, .int d_noises, .ref p_noise, .int d_askers, .ref p_asker, .ref p_st, .ref p_images, .ref p_isKept, .long d_trace, .ref p_text, .int d_texted, .int d_cursor, .int d_start, .int d_token, .int d_number, .long d_word, .int d_isWrong, .int d_saidDishes, .ref p_saidMount, .int d_saidSpeakers, .ref p_saidSpeaker, .int d_saidNoises, .ref p_saidNoise, .int d_saidAskers, .ref p_saidAsker, .ref p_room, .int d_couldBe, .int d_couldHere])), (p_text, .inl (cI, 250, .inl d_text))] → va_S A s.heap H locs → ∀ ls : Array Slot, lv_has ls 6 [(0, .ref p_this), (1, .ref p_a1), (2, .int x2), (5, .int d_number)] → f_X6_readInto_J31 n_a1 x2 d_number d_a1 d_texted d_cursor d_start d_token d_number d_word d_isWrong d_text t1_31 = some out → W p l e ({ frames := 3, cells := 0, slots := 0, locals := 64 } : Room) s m ([.ref p_this, .ref p_a1, .int x2, .int x3, .int x4] : List Value).toArray below meth c H locs 0 0 Q (F0 m 31 ls [.int t1_31, .ref p_this]) := by
    intro t1_31 H locs hP hD hS ls hl hrun
    rw [f_X6_readInto_J31] at hrun
    obtain ⟨q31, hq31, hrun⟩ := bind_out hrun
    have hPc : va_P (dC, dI) vwCl [(p_this, .inr (6, [.int d_dishes, .int d_speakers, .ref p_speaker, .int d_noises, .ref p_noise, .int d_askers, .ref p_asker, .ref p_st, .ref p_images, .ref p_isKept, .long d_trace, .ref p_text, .int d_texted, .int d_cursor, .int d_start, .int d_token, .int d_number, .long d_word, .int d_isWrong, .int d_saidDishes, .ref p_saidMount, .int d_saidSpeakers, .ref p_saidSpeaker, .int d_saidNoises, .ref p_saidNoise, .int d_saidAskers, .ref p_saidAsker, .ref p_room, .int d_couldBe, .int d_couldHere])), (p_text, .inl (cI, 250, .inl d_text))] H := hP.sub [1, 2] rfl
    have hDc : va_D A [(p_this, .inr (6, [.int d_dishes, .int d_speakers, .ref p_speaker, .int d_noises, .ref p_noise, .int d_askers, .ref p_asker, .ref p_st, .ref p_images, .ref p_isKept, .long d_trace, .ref p_text, .int d_texted, .int d_cursor, .int d_start, .int d_token, .int d_number, .long d_word, .int d_isWrong, .int d_saidDishes, .ref p_saidMount, .int d_saidSpeakers, .ref p_saidSpeaker, .int d_saidNoises, .ref p_saidNoise, .int d_saidAskers, .ref p_saidAsker, .ref p_room, .int d_couldBe, .int d_couldHere])), (p_text, .inl (cI, 250, .inl d_text))] := hD.sub [1, 2] (by decide) rfl
    have hFc := va_free (wc := [(p_this, .inr (6, [.int d_dishes, .int d_speakers, .ref p_speaker, .int d_noises, .ref p_noise, .int d_askers, .ref p_asker, .ref p_st, .ref p_images, .ref p_isKept, .long d_trace, .ref p_text, .int d_texted, .int d_cursor, .int d_start, .int d_token, .int d_number, .long d_word, .int d_isWrong, .int d_saidDishes, .ref p_saidMount, .int d_saidSpeakers, .ref p_saidSpeaker, .int d_saidNoises, .ref p_saidNoise, .int d_saidAskers, .ref p_saidAsker, .ref p_room, .int d_couldBe, .int d_couldHere])), (p_text, .inl (cI, 250, .inl d_text))]) hD hS hA [1, 2] rfl
    refine va_callv (va_runV (As := [.int t1_31]) (rest := []) ⟨hx, hb, hml, hown, hts⟩ (c_X6_must l dC dI cI cZ H.size p_asker p_images p_isKept p_noise p_room p_saidAsker p_saidMount p_saidNoise p_saidSpeaker p_speaker p_st p_text p_this d_dishes d_speakers d_noises d_askers d_trace d_texted d_cursor d_start d_token d_number d_word d_isWrong d_saidDishes d_saidSpeakers d_saidNoises d_saidAskers d_couldBe d_couldHere d_text t1_31 q31 hq31) (cwV 1 hts gX6_readInto_X6_must rfl rfl rfl (by decide +kernel) ⟨Nat.le_of_ble_eq_true rfl, Nat.le_of_ble_eq_true rfl⟩) ⟨fun a U g mk q => ⟨q.1, PC.mv q.2⟩, va_recv hK hP (ci := 6) (q0 := 1) rfl rfl, fun U hU hW => ⟨rfl, PC.of hU hW hPc hK hDc hN⟩⟩ rfl rfl hl.1 rfl (lv_room (Nat.le_of_ble_eq_true rfl)) dX6_readInto_31 ⟨Nat.zero_le _, Nat.zero_le _⟩) hS (fun q _ h => hFc q h) hFc (fun u t H1 locs ht hvm hw hB hz1 hk1 hS => ?_)
    obtain ⟨hP1, hD1⟩ := hB
    rw [ht] at hP1
    obtain ⟨hP, hD⟩ := va_join (wr := [(p_a1, .inl (cI, n_a1, .inl d_a1))]) (w1 := [(p_this, .inr (6, [.int d_dishes, .int d_speakers, .ref p_speaker, .int d_noises, .ref p_noise, .int d_askers, .ref p_asker, .ref p_st, .ref p_images, .ref p_isKept, .long d_trace, .ref p_text, .int d_texted, .int q31.1, .int q31.2.1, .int q31.2.2.1, .int q31.2.2.2.1, .long q31.2.2.2.2.1, .int q31.2.2.2.2.2, .int d_saidDishes, .ref p_saidMount, .int d_saidSpeakers, .ref p_saidSpeaker, .int d_saidNoises, .ref p_saidNoise, .int d_saidAskers, .ref p_saidAsker, .ref p_room, .int d_couldBe, .int d_couldHere])), (p_text, .inl (cI, 250, .inl d_text))]) hP hD [1, 2] [0] rfl rfl (by decide) (by decide) hk1 hFc hP1 hD1
    have hP : va_P (dC, dI) vwCl [(p_a1, .inl (cI, n_a1, .inl d_a1)), (p_this, .inr (6, [.int d_dishes, .int d_speakers, .ref p_speaker, .int d_noises, .ref p_noise, .int d_askers, .ref p_asker, .ref p_st, .ref p_images, .ref p_isKept, .long d_trace, .ref p_text, .int d_texted, .int q31.1, .int q31.2.1, .int q31.2.2.1, .int q31.2.2.2.1, .long q31.2.2.2.2.1, .int q31.2.2.2.2.2, .int d_saidDishes, .ref p_saidMount, .int d_saidSpeakers, .ref p_saidSpeaker, .int d_saidNoises, .ref p_saidNoise, .int d_saidAskers, .ref p_saidAsker, .ref p_room, .int d_couldBe, .int d_couldHere])), (p_text, .inl (cI, 250, .inl d_text))] H1 := hP.sub [0, 1, 2] rfl
    have hD : va_D A [(p_a1, .inl (cI, n_a1, .inl d_a1)), (p_this, .inr (6, [.int d_dishes, .int d_speakers, .ref p_speaker, .int d_noises, .ref p_noise, .int d_askers, .ref p_asker, .ref p_st, .ref p_images, .ref p_isKept, .long d_trace, .ref p_text, .int d_texted, .int q31.1, .int q31.2.1, .int q31.2.2.1, .int q31.2.2.2.1, .long q31.2.2.2.2.1, .int q31.2.2.2.2.2, .int d_saidDishes, .ref p_saidMount, .int d_saidSpeakers, .ref p_saidSpeaker, .int d_saidNoises, .ref p_saidNoise, .int d_saidAskers, .ref p_saidAsker, .ref p_room, .int d_couldBe, .int d_couldHere])), (p_text, .inl (cI, 250, .inl d_text))] := hD.sub [0, 1, 2] (by decide) rfl
    clear hPc hDc hFc hk1 hz1 hP1 hD1 ht hvm
    generalize H1 = H at hP hS ⊢
    refine lv_aload_n hx hb dX6_readInto_34 rfl (lv_at hl 0 rfl) ?_
    refine va_get (D := (dC, dI)) (ci := 6) (v := .int q31.2.2.2.2.2) (C := RX6) (T := TX6) (N := 30) hx hb hts iwX6 hown hK hP 1 rfl rfl 18 (by decide) (hts (.fieldLink RX6 83 "SkyListenersModel" "isWrong" "Z") (by decide +kernel)) (fun _ h9 => h9) rfl dX6_readInto_35 ?_
    refine lv_if_ne (tgt := 46) hx hb dX6_readInto_38 (by decide) (fun c_38 => ?_) (fun c_38 => ?_)
    · rw [if_neg c_38] at hrun
      refine lv_iload hx hb dX6_readInto_46 (lv_at hl 3 rfl) ?_
      have hrun := Option.some.inj hrun
      subst hrun
      rw [hQ]
      exact W.iret (v := d_number) hx hb hr (fun t ht hW => ⟨⟨d_number, (), rfl, rfl, by rw [ht]; exact hP, hD⟩, hS.F ht⟩) hS.2.2 dX6_readInto_48
    · rw [if_pos c_38] at hrun
      refine lv_aload_n hx hb dX6_readInto_41 rfl (lv_at hl 1 rfl) ?_
      refine lv_iload_n hx hb dX6_readInto_42 rfl (lv_at hl 2 rfl) ?_
      refine lv_iload hx hb dX6_readInto_43 (lv_at hl 3 rfl) ?_
      rcases Classical.em (x2 < 0 ∨ n_a1 ≤ x2.toNatClampNeg) with g_45 | g_45
      · rw [if_pos g_45] at hrun; cases hrun
      rw [if_neg g_45] at hrun
      refine va_iast hx hb hK hP hD hS 0 0 rfl rfl g_45 dX6_readInto_45 (fun H locs hP hD hS => ?_)
      have hP : va_P (dC, dI) vwCl [(p_a1, .inl (cI, n_a1, .inl (upd d_a1 x2.toNatClampNeg d_number))), (p_this, .inr (6, [.int d_dishes, .int d_speakers, .ref p_speaker, .int d_noises, .ref p_noise, .int d_askers, .ref p_asker, .ref p_st, .ref p_images, .ref p_isKept, .long d_trace, .ref p_text, .int d_texted, .int q31.1, .int q31.2.1, .int q31.2.2.1, .int q31.2.2.2.1, .long q31.2.2.2.2.1, .int q31.2.2.2.2.2, .int d_saidDishes, .ref p_saidMount, .int d_saidSpeakers, .ref p_saidSpeaker, .int d_saidNoises, .ref p_saidNoise, .int d_saidAskers, .ref p_saidAsker, .ref p_room, .int d_couldBe, .int d_couldHere])), (p_text, .inl (cI, 250, .inl d_text))] H := hP
      have hD : va_D A [(p_a1, .inl (cI, n_a1, .inl (upd d_a1 x2.toNatClampNeg d_number))), (p_this, .inr (6, [.int d_dishes, .int d_speakers, .ref p_speaker, .int d_noises, .ref p_noise, .int d_askers, .ref p_asker, .ref p_st, .ref p_images, .ref p_isKept, .long d_trace, .ref p_text, .int d_texted, .int q31.1, .int q31.2.1, .int q31.2.2.1, .int q31.2.2.2.1, .long q31.2.2.2.2.1, .int q31.2.2.2.2.2, .int d_saidDishes, .ref p_saidMount, .int d_saidSpeakers, .ref p_saidSpeaker, .int d_saidNoises, .ref p_saidNoise, .int d_saidAskers, .ref p_saidAsker, .ref p_room, .int d_couldBe, .int d_couldHere])), (p_text, .inl (cI, 250, .inl d_text))] := hD
      refine lv_iload hx hb dX6_readInto_46 (lv_at hl 3 rfl) ?_
      have hrun := Option.some.inj hrun
      subst hrun
      rw [hQ]
      exact W.iret (v := d_number) hx hb hr (fun t ht hW => ⟨⟨d_number, (), rfl, rfl, by rw [ht]; exact hP, hD⟩, hS.F ht⟩) hS.2.2 dX6_readInto_48
  refine lv_icmp_ne (tgt := 30) hx hb dX6_readInto_12 (by decide) (fun c_12 => ?_) (fun c_12 => ?_)
  · rw [if_neg c_12] at hrun
    refine lv_iconst (v := 0) hx hb dX6_readInto_30 (by decide) ?_
    exact J31 0 H locs hP hD hS ls (lv_sub hl [1, 2, 3, 0] rfl) hrun
  · rw [if_pos c_12] at hrun
    refine lv_iload hx hb dX6_readInto_15 (lv_at hl 0 rfl) ?_
    refine lv_iload_n hx hb dX6_readInto_17 rfl (lv_at hl 4 rfl) ?_
    refine lv_iload hx hb dX6_readInto_18 (lv_at hl 5 rfl) ?_
    have hPc : va_P (dC, dI) vwCl [] H := hP.sub [] rfl
    have hDc : va_D A [] := hD.sub [] (by decide) rfl
    have hFc := va_free (wc := []) hD hS hA [] rfl
    refine va_calli (va_runS (As := [.int d_number, .int x3, .int x4]) (rest := [.ref p_this]) ⟨hx, hb, hml, hown, hts⟩ (c_X6_in l dC dI cI cZ H.size d_number x3 x4 (f_X6_in d_number x3 x4) rfl) (va_cwS 3 hts gX6_readInto_X6_in rfl rfl rfl (by decide +kernel) ⟨Nat.le_of_ble_eq_true rfl, Nat.le_of_ble_eq_true rfl⟩) ⟨fun a U g mk q => ⟨q.1, PC.mv q.2⟩, fun U hU hW => ⟨rfl, PC.of hU hW hPc hK hDc hN⟩⟩ rfl rfl hl.1 rfl (lv_room (Nat.le_of_ble_eq_true rfl)) dX6_readInto_20 ⟨Nat.zero_le _, Nat.zero_le _⟩) hS (fun q _ h => hFc q h) hFc (fun r_20 u t H1 locs ht hvm hw hB hz1 hk1 hS => ?_)
    obtain ⟨hP1, hD1⟩ := hB
    try dsimp only at hw
    rw [hw]
    rw [ht] at hP1
    have hP : va_P (dC, dI) vwCl [(p_a1, .inl (cI, n_a1, .inl d_a1)), (p_this, .inr (6, [.int d_dishes, .int d_speakers, .ref p_speaker, .int d_noises, .ref p_noise, .int d_askers, .ref p_asker, .ref p_st, .ref p_images, .ref p_isKept, .long d_trace, .ref p_text, .int d_texted, .int d_cursor, .int d_start, .int d_token, .int d_number, .long d_word, .int d_isWrong, .int d_saidDishes, .ref p_saidMount, .int d_saidSpeakers, .ref p_saidSpeaker, .int d_saidNoises, .ref p_saidNoise, .int d_saidAskers, .ref p_saidAsker, .ref p_room, .int d_couldBe, .int d_couldHere])), (p_text, .inl (cI, 250, .inl d_text))] H1 := join_ro hP hD [] rfl hk1 hP1
    clear hPc hDc hFc hk1 hz1 hP1 hD1 ht hvm
    generalize H1 = H at hP hS ⊢
    refine lv_if_eq (tgt := 30) hx hb dX6_readInto_23 (by decide) (fun c_23 => ?_) (fun c_23 => ?_)
    · rw [if_pos c_23] at hrun
      refine lv_iconst (v := 0) hx hb dX6_readInto_30 (by decide) ?_
      exact J31 0 H locs hP hD hS ls (lv_sub hl [1, 2, 3, 0] rfl) hrun
    · rw [if_neg c_23] at hrun
      refine lv_iconst (v := 1) hx hb dX6_readInto_26 (by decide) ?_
      refine lv_goto (tgt := 31) hx hb dX6_readInto_27 (by decide) ?_
      exact J31 1 H locs hP hD hS ls (lv_sub hl [1, 2, 3, 0] rfl) hrun
-- SkyListenersModel.readDish
def f_X6_readDish_J55 (d_texted : Int32) (d_cursor : Int32) (d_start : Int32) (d_token : Int32) (d_number : Int32) (d_word : Int64) (d_isWrong : Int32) (d_saidDishes : Int32) (d_saidMount : Nat → Int32) (d_text : Nat → Int32) (t1 : Int32) : Option (Int32 × Int32 × Int32 × Int32 × Int64 × Int32 × Int32 × (Nat → Int32)) := ((f_X6_must d_texted d_cursor d_start d_token d_number d_word d_isWrong d_text t1).bind fun q55 => (some (q55.1, q55.2.1, q55.2.2.1, q55.2.2.2.1, q55.2.2.2.2.1, q55.2.2.2.2.2, d_saidDishes + 1, d_saidMount)))
def f_X6_readDish_J14 (d_texted : Int32) (d_cursor : Int32) (d_start : Int32) (d_token : Int32) (d_number : Int32) (d_word : Int64) (d_isWrong : Int32) (d_saidDishes : Int32) (d_saidMount : Nat → Int32) (d_text : Nat → Int32) (t1 : Int32) : Option (Int32 × Int32 × Int32 × Int32 × Int64 × Int32 × Int32 × (Nat → Int32)) := ((f_X6_must d_texted d_cursor d_start d_token d_number d_word d_isWrong d_text t1).bind fun q14 => (if q14.2.2.2.2.2 = 0 then ((f_X6_readInto 5 d_saidMount d_texted q14.1 q14.2.1 q14.2.2.1 q14.2.2.2.1 q14.2.2.2.2.1 q14.2.2.2.2.2 d_text d_saidDishes 0 7).bind fun q37 => (if q37.2.2.2.2.1 = 3 then (f_X6_readDish_J55 d_texted q37.2.2.1 q37.2.2.2.1 q37.2.2.2.2.1 q37.2.2.2.2.2.1 q37.2.2.2.2.2.2.1 q37.2.2.2.2.2.2.2 d_saidDishes q37.2.1 d_text 1) else (f_X6_readDish_J55 d_texted q37.2.2.1 q37.2.2.2.1 q37.2.2.2.2.1 q37.2.2.2.2.2.1 q37.2.2.2.2.2.2.1 q37.2.2.2.2.2.2.2 d_saidDishes q37.2.1 d_text 0))) else (some (q14.1, q14.2.1, q14.2.2.1, q14.2.2.2.1, q14.2.2.2.2.1, q14.2.2.2.2.2, d_saidDishes, d_saidMount))))
def f_X6_readDish (d_texted : Int32) (d_cursor : Int32) (d_start : Int32) (d_token : Int32) (d_number : Int32) (d_word : Int64) (d_isWrong : Int32) (d_saidDishes : Int32) (d_saidMount : Nat → Int32) (d_text : Nat → Int32) : Option (Int32 × Int32 × Int32 × Int32 × Int64 × Int32 × Int32 × (Nat → Int32)) := (if 5 ≤ d_saidDishes then (f_X6_readDish_J14 d_texted d_cursor d_start d_token d_number d_word d_isWrong d_saidDishes d_saidMount d_text 0) else (f_X6_readDish_J14 d_texted d_cursor d_start d_token d_number d_word d_isWrong d_saidDishes d_saidMount d_text 1))
set_option maxHeartbeats 4000000 in
set_option maxRecDepth 100000 in
theorem c_X6_readDish (l : Launch) (dC : Nat → ClassId) (dI : Nat → Nat → Nat) (cI cZ : ClassId) (sz : Nat) (p_asker p_images p_isKept p_noise p_room p_saidAsker p_saidMount p_saidNoise p_saidSpeaker p_speaker p_st p_text p_this : Nat) (d_dishes : Int32) (d_speakers : Int32) (d_noises : Int32) (d_askers : Int32) (d_trace : Int64) (d_texted : Int32) (d_cursor : Int32) (d_start : Int32) (d_token : Int32) (d_number : Int32) (d_word : Int64) (d_isWrong : Int32) (d_saidDishes : Int32) (d_saidSpeakers : Int32) (d_saidNoises : Int32) (d_saidAskers : Int32) (d_couldBe : Int32) (d_couldHere : Int32) (d_saidMount : Nat → Int32) (d_text : Nat → Int32) (out : Int32 × Int32 × Int32 × Int32 × Int64 × Int32 × Int32 × (Nat → Int32)) (hrun : f_X6_readDish d_texted d_cursor d_start d_token d_number d_word d_isWrong d_saidDishes d_saidMount d_text = some out) : Met l yX6_readDish wsX6_readDish ({ frames := 4, cells := 0, slots := 0, locals := 89 } : Room) (va_Pc [.ref p_this] (PC dC dI cI cZ sz ([(p_this, .inr (6, [.int d_dishes, .int d_speakers, .ref p_speaker, .int d_noises, .ref p_noise, .int d_askers, .ref p_asker, .ref p_st, .ref p_images, .ref p_isKept, .long d_trace, .ref p_text, .int d_texted, .int d_cursor, .int d_start, .int d_token, .int d_number, .long d_word, .int d_isWrong, .int d_saidDishes, .ref p_saidMount, .int d_saidSpeakers, .ref p_saidSpeaker, .int d_saidNoises, .ref p_saidNoise, .int d_saidAskers, .ref p_saidAsker, .ref p_room, .int d_couldBe, .int d_couldHere])), (p_saidMount, .inl (cI, 5, .inl d_saidMount)), (p_text, .inl (cI, 250, .inl d_text))] : va_W))) (va_Qv (fun (_ : Unit) => True) (fun _ t => va_P (dC, dI) vwCl [(p_this, .inr (6, [.int d_dishes, .int d_speakers, .ref p_speaker, .int d_noises, .ref p_noise, .int d_askers, .ref p_asker, .ref p_st, .ref p_images, .ref p_isKept, .long d_trace, .ref p_text, .int d_texted, .int out.1, .int out.2.1, .int out.2.2.1, .int out.2.2.2.1, .long out.2.2.2.2.1, .int out.2.2.2.2.2.1, .int out.2.2.2.2.2.2.1, .ref p_saidMount, .int d_saidSpeakers, .ref p_saidSpeaker, .int d_saidNoises, .ref p_saidNoise, .int d_saidAskers, .ref p_saidAsker, .ref p_room, .int d_couldBe, .int d_couldHere])), (p_saidMount, .inl (cI, 5, .inl out.2.2.2.2.2.2.2)), (p_text, .inl (cI, 250, .inl d_text))] t.heap ∧ va_D (va_A ([(p_this, .inr (6, [.int d_dishes, .int d_speakers, .ref p_speaker, .int d_noises, .ref p_noise, .int d_askers, .ref p_asker, .ref p_st, .ref p_images, .ref p_isKept, .long d_trace, .ref p_text, .int d_texted, .int d_cursor, .int d_start, .int d_token, .int d_number, .long d_word, .int d_isWrong, .int d_saidDishes, .ref p_saidMount, .int d_saidSpeakers, .ref p_saidSpeaker, .int d_saidNoises, .ref p_saidNoise, .int d_saidAskers, .ref p_saidAsker, .ref p_room, .int d_couldBe, .int d_couldHere])), (p_saidMount, .inl (cI, 5, .inl d_saidMount)), (p_text, .inl (cI, 250, .inl d_text))] : va_W) sz) [(p_this, .inr (6, [.int d_dishes, .int d_speakers, .ref p_speaker, .int d_noises, .ref p_noise, .int d_askers, .ref p_asker, .ref p_st, .ref p_images, .ref p_isKept, .long d_trace, .ref p_text, .int d_texted, .int out.1, .int out.2.1, .int out.2.2.1, .int out.2.2.2.1, .long out.2.2.2.2.1, .int out.2.2.2.2.2.1, .int out.2.2.2.2.2.2.1, .ref p_saidMount, .int d_saidSpeakers, .ref p_saidSpeaker, .int d_saidNoises, .ref p_saidNoise, .int d_saidAskers, .ref p_saidAsker, .ref p_room, .int d_couldBe, .int d_couldHere])), (p_saidMount, .inl (cI, 5, .inl out.2.2.2.2.2.2.2)), (p_text, .inl (cI, 250, .inl d_text))]) (va_A ([(p_this, .inr (6, [.int d_dishes, .int d_speakers, .ref p_speaker, .int d_noises, .ref p_noise, .int d_askers, .ref p_asker, .ref p_st, .ref p_images, .ref p_isKept, .long d_trace, .ref p_text, .int d_texted, .int d_cursor, .int d_start, .int d_token, .int d_number, .long d_word, .int d_isWrong, .int d_saidDishes, .ref p_saidMount, .int d_saidSpeakers, .ref p_saidSpeaker, .int d_saidNoises, .ref p_saidNoise, .int d_saidAskers, .ref p_saidAsker, .ref p_room, .int d_couldBe, .int d_couldHere])), (p_saidMount, .inl (cI, 5, .inl d_saidMount)), (p_text, .inl (cI, 250, .inl d_text))] : va_W) sz)) 0 0 (va_A ([(p_this, .inr (6, [.int d_dishes, .int d_speakers, .ref p_speaker, .int d_noises, .ref p_noise, .int d_askers, .ref p_asker, .ref p_st, .ref p_images, .ref p_isKept, .long d_trace, .ref p_text, .int d_texted, .int d_cursor, .int d_start, .int d_token, .int d_number, .long d_word, .int d_isWrong, .int d_saidDishes, .ref p_saidMount, .int d_saidSpeakers, .ref p_saidSpeaker, .int d_saidNoises, .ref p_saidNoise, .int d_saidAskers, .ref p_saidAsker, .ref p_room, .int d_couldBe, .int d_couldHere])), (p_saidMount, .inl (cI, 5, .inl d_saidMount)), (p_text, .inl (cI, 250, .inl d_text))] : va_W) sz) := by
  refine Met.ofW (cc := cX6_readDish) (maxL := 1) (ret := none) (by decide) rfl ?_
  intro p e s m args below meth c s₁ B hml hv
  obtain ⟨rfl, hsz, hP, hK, hD0, hN⟩ := hv
  have hx := B.exec
  have hb := B.bytes
  have hr := B.returns
  have hts := atoms_spec (ws := wsX6_readDish) B.pre
  have hown : s.vm.findClass RX6 = some m.cls := findClass_of_methodNamed B.named
  have hlocks := B.notSynchronized
  subst hsz
  have hD := hD0.self (sz := s.heap.size)
  generalize hAe : va_A ([(p_this, .inr (6, [.int d_dishes, .int d_speakers, .ref p_speaker, .int d_noises, .ref p_noise, .int d_askers, .ref p_asker, .ref p_st, .ref p_images, .ref p_isKept, .long d_trace, .ref p_text, .int d_texted, .int d_cursor, .int d_start, .int d_token, .int d_number, .long d_word, .int d_isWrong, .int d_saidDishes, .ref p_saidMount, .int d_saidSpeakers, .ref p_saidSpeaker, .int d_saidNoises, .ref p_saidNoise, .int d_saidAskers, .ref p_saidAsker, .ref p_room, .int d_couldBe, .int d_couldHere])), (p_saidMount, .inl (cI, 5, .inl d_saidMount)), (p_text, .inl (cI, 250, .inl d_text))] : va_W) s.heap.size = A at hD ⊢
  have hA : ∀ q : Nat, s.heap.size ≤ q → A q := fun q h => by rw [← hAe]; exact Or.inr h
  have hS : va_S A s.heap s.heap [] := va_S.rf
  refine W_abs (fun Q hQ => ?_)
  have hl := lv_entry ([.ref p_this]) (n := 1) (Nat.le_of_ble_eq_true rfl)
  rw [lg_entry_eq]
  generalize (lg_sl ([.ref p_this]) ++ List.replicate (1 - (lg_sl ([.ref p_this])).length) Slot.unset).toArray = ls at hl ⊢
  have hl : lv_has ls 1 [(0, .ref p_this)] := hl
  rw [f_X6_readDish] at hrun
  refine W_start (ws := [(p_this, .inr (6, [.int d_dishes, .int d_speakers, .ref p_speaker, .int d_noises, .ref p_noise, .int d_askers, .ref p_asker, .ref p_st, .ref p_images, .ref p_isKept, .long d_trace, .ref p_text, .int d_texted, .int d_cursor, .int d_start, .int d_token, .int d_number, .long d_word, .int d_isWrong, .int d_saidDishes, .ref p_saidMount, .int d_saidSpeakers, .ref p_saidSpeaker, .int d_saidNoises, .ref p_saidNoise, .int d_saidAskers, .ref p_saidAsker, .ref p_room, .int d_couldBe, .int d_couldHere])), (p_saidMount, .inl (cI, 5, .inl d_saidMount)), (p_text, .inl (cI, 250, .inl d_text))]) hP hS (fun H locs hP hS => ?_)
  have iwX6 : ∀ w ∈ wsX60, w ∈ wsX6_readDish := by decide +kernel
  refine lv_aload_n hx hb dX6_readDish_0 rfl (lv_at hl 0 rfl) ?_
  refine lv_aload_n hx hb dX6_readDish_1 rfl (lv_at hl 0 rfl) ?_
  refine va_get (D := (dC, dI)) (ci := 6) (v := .int d_saidDishes) (C := RX6) (T := TX6) (N := 30) hx hb hts iwX6 hown hK hP 0 rfl rfl 19 (by decide) (hts (.fieldLink RX6 94 "SkyListenersModel" "saidDishes" "I") (by decide +kernel)) (fun _ h9 => h9) rfl dX6_readDish_2 ?_
  refine lv_iconst (v := 5) hx hb dX6_readDish_5 (by decide) ?_
  have J14 : ∀ (t1_14 : Int32) (H : Heap) (locs : List Loc), va_P (dC, dI) vwCl [(p_this, .inr (6, [.int d_dishes, .int d_speakers, .ref p_speaker, .int d_noises, .ref p_noise, .int d_askers, .ref p_asker, .ref p_st, .ref p_images, .ref p_isKept, .long d_trace, .ref p_text, .int d_texted, .int d_cursor, .int d_start, .int d_token, .int d_number, .long d_word, .int d_isWrong, .int d_saidDishes, .ref p_saidMount, .int d_saidSpeakers, .ref p_saidSpeaker, .int d_saidNoises, .ref p_saidNoise, .int d_saidAskers, .ref p_saidAsker, .ref p_room, .int d_couldBe, .int d_couldHere])), (p_saidMount, .inl (cI, 5, .inl d_saidMount)), (p_text, .inl (cI, 250, .inl d_text))] H → va_D A [(p_this, .inr (6, [.int d_dishes, .int d_speakers, .ref p_speaker, .int d_noises, .ref p_noise, .int d_askers, .ref p_asker, .ref p_st, .ref p_images, .ref p_isKept, .long d_trace, .ref p_text, .int d_texted, .int d_cursor, .int d_start, .int d_token, .int d_number, .long d_word, .int d_isWrong, .int d_saidDishes, .ref p_saidMount, .int d_saidSpeakers, .ref p_saidSpeaker, .int d_saidNoises, .ref p_saidNoise, .int d_saidAskers, .ref p_saidAsker, .ref p_room, .int d_couldBe, .int d_couldHere])), (p_saidMount, .inl (cI, 5, .inl d_saidMount)), (p_text, .inl (cI, 250, .inl d_text))] → va_S A s.heap H locs → ∀ ls : Array Slot, lv_has ls 1 [(0, .ref p_this)] → f_X6_readDish_J14 d_texted d_cursor d_start d_token d_number d_word d_isWrong d_saidDishes d_saidMount d_text t1_14 = some out → W p l e ({ frames := 4, cells := 0, slots := 0, locals := 89 } : Room) s m ([.ref p_this] : List Value).toArray below meth c H locs 0 0 Q (F0 m 14 ls [.int t1_14, .ref p_this]) := by
    intro t1_14 H locs hP hD hS ls hl hrun
    rw [f_X6_readDish_J14] at hrun
    obtain ⟨q14, hq14, hrun⟩ := bind_out hrun
    have hPc : va_P (dC, dI) vwCl [(p_this, .inr (6, [.int d_dishes, .int d_speakers, .ref p_speaker, .int d_noises, .ref p_noise, .int d_askers, .ref p_asker, .ref p_st, .ref p_images, .ref p_isKept, .long d_trace, .ref p_text, .int d_texted, .int d_cursor, .int d_start, .int d_token, .int d_number, .long d_word, .int d_isWrong, .int d_saidDishes, .ref p_saidMount, .int d_saidSpeakers, .ref p_saidSpeaker, .int d_saidNoises, .ref p_saidNoise, .int d_saidAskers, .ref p_saidAsker, .ref p_room, .int d_couldBe, .int d_couldHere])), (p_text, .inl (cI, 250, .inl d_text))] H := hP.sub [0, 2] rfl
    have hDc : va_D A [(p_this, .inr (6, [.int d_dishes, .int d_speakers, .ref p_speaker, .int d_noises, .ref p_noise, .int d_askers, .ref p_asker, .ref p_st, .ref p_images, .ref p_isKept, .long d_trace, .ref p_text, .int d_texted, .int d_cursor, .int d_start, .int d_token, .int d_number, .long d_word, .int d_isWrong, .int d_saidDishes, .ref p_saidMount, .int d_saidSpeakers, .ref p_saidSpeaker, .int d_saidNoises, .ref p_saidNoise, .int d_saidAskers, .ref p_saidAsker, .ref p_room, .int d_couldBe, .int d_couldHere])), (p_text, .inl (cI, 250, .inl d_text))] := hD.sub [0, 2] (by decide) rfl
    have hFc := va_free (wc := [(p_this, .inr (6, [.int d_dishes, .int d_speakers, .ref p_speaker, .int d_noises, .ref p_noise, .int d_askers, .ref p_asker, .ref p_st, .ref p_images, .ref p_isKept, .long d_trace, .ref p_text, .int d_texted, .int d_cursor, .int d_start, .int d_token, .int d_number, .long d_word, .int d_isWrong, .int d_saidDishes, .ref p_saidMount, .int d_saidSpeakers, .ref p_saidSpeaker, .int d_saidNoises, .ref p_saidNoise, .int d_saidAskers, .ref p_saidAsker, .ref p_room, .int d_couldBe, .int d_couldHere])), (p_text, .inl (cI, 250, .inl d_text))]) hD hS hA [0, 2] rfl
    refine va_callv (va_runV (As := [.int t1_14]) (rest := []) ⟨hx, hb, hml, hown, hts⟩ (c_X6_must l dC dI cI cZ H.size p_asker p_images p_isKept p_noise p_room p_saidAsker p_saidMount p_saidNoise p_saidSpeaker p_speaker p_st p_text p_this d_dishes d_speakers d_noises d_askers d_trace d_texted d_cursor d_start d_token d_number d_word d_isWrong d_saidDishes d_saidSpeakers d_saidNoises d_saidAskers d_couldBe d_couldHere d_text t1_14 q14 hq14) (cwV 1 hts gX6_readDish_X6_must rfl rfl rfl (by decide +kernel) ⟨Nat.le_of_ble_eq_true rfl, Nat.le_of_ble_eq_true rfl⟩) ⟨fun a U g mk q => ⟨q.1, PC.mv q.2⟩, va_recv hK hP (ci := 6) (q0 := 0) rfl rfl, fun U hU hW => ⟨rfl, PC.of hU hW hPc hK hDc hN⟩⟩ rfl rfl hl.1 rfl (lv_room (Nat.le_of_ble_eq_true rfl)) dX6_readDish_14 ⟨Nat.zero_le _, Nat.zero_le _⟩) hS (fun q _ h => hFc q h) hFc (fun u t H1 locs ht hvm hw hB hz1 hk1 hS => ?_)
    obtain ⟨hP1, hD1⟩ := hB
    rw [ht] at hP1
    obtain ⟨hP, hD⟩ := va_join (wr := [(p_saidMount, .inl (cI, 5, .inl d_saidMount))]) (w1 := [(p_this, .inr (6, [.int d_dishes, .int d_speakers, .ref p_speaker, .int d_noises, .ref p_noise, .int d_askers, .ref p_asker, .ref p_st, .ref p_images, .ref p_isKept, .long d_trace, .ref p_text, .int d_texted, .int q14.1, .int q14.2.1, .int q14.2.2.1, .int q14.2.2.2.1, .long q14.2.2.2.2.1, .int q14.2.2.2.2.2, .int d_saidDishes, .ref p_saidMount, .int d_saidSpeakers, .ref p_saidSpeaker, .int d_saidNoises, .ref p_saidNoise, .int d_saidAskers, .ref p_saidAsker, .ref p_room, .int d_couldBe, .int d_couldHere])), (p_text, .inl (cI, 250, .inl d_text))]) hP hD [0, 2] [1] rfl rfl (by decide) (by decide) hk1 hFc hP1 hD1
    have hP : va_P (dC, dI) vwCl [(p_this, .inr (6, [.int d_dishes, .int d_speakers, .ref p_speaker, .int d_noises, .ref p_noise, .int d_askers, .ref p_asker, .ref p_st, .ref p_images, .ref p_isKept, .long d_trace, .ref p_text, .int d_texted, .int q14.1, .int q14.2.1, .int q14.2.2.1, .int q14.2.2.2.1, .long q14.2.2.2.2.1, .int q14.2.2.2.2.2, .int d_saidDishes, .ref p_saidMount, .int d_saidSpeakers, .ref p_saidSpeaker, .int d_saidNoises, .ref p_saidNoise, .int d_saidAskers, .ref p_saidAsker, .ref p_room, .int d_couldBe, .int d_couldHere])), (p_saidMount, .inl (cI, 5, .inl d_saidMount)), (p_text, .inl (cI, 250, .inl d_text))] H1 := hP.sub [1, 0, 2] rfl
    have hD : va_D A [(p_this, .inr (6, [.int d_dishes, .int d_speakers, .ref p_speaker, .int d_noises, .ref p_noise, .int d_askers, .ref p_asker, .ref p_st, .ref p_images, .ref p_isKept, .long d_trace, .ref p_text, .int d_texted, .int q14.1, .int q14.2.1, .int q14.2.2.1, .int q14.2.2.2.1, .long q14.2.2.2.2.1, .int q14.2.2.2.2.2, .int d_saidDishes, .ref p_saidMount, .int d_saidSpeakers, .ref p_saidSpeaker, .int d_saidNoises, .ref p_saidNoise, .int d_saidAskers, .ref p_saidAsker, .ref p_room, .int d_couldBe, .int d_couldHere])), (p_saidMount, .inl (cI, 5, .inl d_saidMount)), (p_text, .inl (cI, 250, .inl d_text))] := hD.sub [1, 0, 2] (by decide) rfl
    clear hPc hDc hFc hk1 hz1 hP1 hD1 ht hvm
    generalize H1 = H at hP hS ⊢
    refine lv_aload_n hx hb dX6_readDish_17 rfl (lv_at hl 0 rfl) ?_
    refine va_get (D := (dC, dI)) (ci := 6) (v := .int q14.2.2.2.2.2) (C := RX6) (T := TX6) (N := 30) hx hb hts iwX6 hown hK hP 0 rfl rfl 18 (by decide) (hts (.fieldLink RX6 83 "SkyListenersModel" "isWrong" "Z") (by decide +kernel)) (fun _ h9 => h9) rfl dX6_readDish_18 ?_
    refine lv_if_eq (tgt := 25) hx hb dX6_readDish_21 (by decide) (fun c_21 => ?_) (fun c_21 => ?_)
    · rw [if_pos c_21] at hrun
      refine lv_aload_n hx hb dX6_readDish_25 rfl (lv_at hl 0 rfl) ?_
      refine lv_aload_n hx hb dX6_readDish_26 rfl (lv_at hl 0 rfl) ?_
      refine va_get (D := (dC, dI)) (ci := 6) (v := .ref p_saidMount) (C := RX6) (T := TX6) (N := 30) hx hb hts iwX6 hown hK hP 0 rfl rfl 20 (by decide) (hts (.fieldLink RX6 32 "SkyListenersModel" "saidMount" "[I") (by decide +kernel)) (fun _ h9 => h9) rfl dX6_readDish_27 ?_
      refine lv_aload_n hx hb dX6_readDish_30 rfl (lv_at hl 0 rfl) ?_
      refine va_get (D := (dC, dI)) (ci := 6) (v := .int d_saidDishes) (C := RX6) (T := TX6) (N := 30) hx hb hts iwX6 hown hK hP 0 rfl rfl 19 (by decide) (hts (.fieldLink RX6 94 "SkyListenersModel" "saidDishes" "I") (by decide +kernel)) (fun _ h9 => h9) rfl dX6_readDish_31 ?_
      refine lv_iconst (v := 0) hx hb dX6_readDish_34 (by decide) ?_
      refine lv_bipush (v := 7) hx hb dX6_readDish_35 (by decide) ?_
      obtain ⟨q37, hq37, hrun⟩ := bind_out hrun
      have hPc : va_P (dC, dI) vwCl [(p_saidMount, .inl (cI, 5, .inl d_saidMount)), (p_this, .inr (6, [.int d_dishes, .int d_speakers, .ref p_speaker, .int d_noises, .ref p_noise, .int d_askers, .ref p_asker, .ref p_st, .ref p_images, .ref p_isKept, .long d_trace, .ref p_text, .int d_texted, .int q14.1, .int q14.2.1, .int q14.2.2.1, .int q14.2.2.2.1, .long q14.2.2.2.2.1, .int q14.2.2.2.2.2, .int d_saidDishes, .ref p_saidMount, .int d_saidSpeakers, .ref p_saidSpeaker, .int d_saidNoises, .ref p_saidNoise, .int d_saidAskers, .ref p_saidAsker, .ref p_room, .int d_couldBe, .int d_couldHere])), (p_text, .inl (cI, 250, .inl d_text))] H := hP.sub [1, 0, 2] rfl
      have hDc : va_D A [(p_saidMount, .inl (cI, 5, .inl d_saidMount)), (p_this, .inr (6, [.int d_dishes, .int d_speakers, .ref p_speaker, .int d_noises, .ref p_noise, .int d_askers, .ref p_asker, .ref p_st, .ref p_images, .ref p_isKept, .long d_trace, .ref p_text, .int d_texted, .int q14.1, .int q14.2.1, .int q14.2.2.1, .int q14.2.2.2.1, .long q14.2.2.2.2.1, .int q14.2.2.2.2.2, .int d_saidDishes, .ref p_saidMount, .int d_saidSpeakers, .ref p_saidSpeaker, .int d_saidNoises, .ref p_saidNoise, .int d_saidAskers, .ref p_saidAsker, .ref p_room, .int d_couldBe, .int d_couldHere])), (p_text, .inl (cI, 250, .inl d_text))] := hD.sub [1, 0, 2] (by decide) rfl
      have hFc := va_free (wc := [(p_saidMount, .inl (cI, 5, .inl d_saidMount)), (p_this, .inr (6, [.int d_dishes, .int d_speakers, .ref p_speaker, .int d_noises, .ref p_noise, .int d_askers, .ref p_asker, .ref p_st, .ref p_images, .ref p_isKept, .long d_trace, .ref p_text, .int d_texted, .int q14.1, .int q14.2.1, .int q14.2.2.1, .int q14.2.2.2.1, .long q14.2.2.2.2.1, .int q14.2.2.2.2.2, .int d_saidDishes, .ref p_saidMount, .int d_saidSpeakers, .ref p_saidSpeaker, .int d_saidNoises, .ref p_saidNoise, .int d_saidAskers, .ref p_saidAsker, .ref p_room, .int d_couldBe, .int d_couldHere])), (p_text, .inl (cI, 250, .inl d_text))]) hD hS hA [1, 0, 2] rfl
      refine va_calli (va_runV (As := [.ref p_saidMount, .int d_saidDishes, .int 0, .int 7]) (rest := []) ⟨hx, hb, hml, hown, hts⟩ (c_X6_readInto l dC dI cI cZ H.size p_saidMount p_asker p_images p_isKept p_noise p_room p_saidAsker p_saidMount p_saidNoise p_saidSpeaker p_speaker p_st p_text p_this 5 d_saidMount d_dishes d_speakers d_noises d_askers d_trace d_texted q14.1 q14.2.1 q14.2.2.1 q14.2.2.2.1 q14.2.2.2.2.1 q14.2.2.2.2.2 d_saidDishes d_saidSpeakers d_saidNoises d_saidAskers d_couldBe d_couldHere d_text d_saidDishes 0 7 (by decide) q37 hq37) (cwV 4 hts gX6_readDish_X6_readInto rfl rfl rfl (by decide +kernel) ⟨Nat.le_of_ble_eq_true rfl, Nat.le_of_ble_eq_true rfl⟩) ⟨fun a U g mk q => ⟨q.1, PC.mv q.2⟩, va_recv hK hP (ci := 6) (q0 := 0) rfl rfl, fun U hU hW => ⟨rfl, PC.of hU hW hPc hK hDc hN⟩⟩ rfl rfl hl.1 rfl (lv_room (Nat.le_of_ble_eq_true rfl)) dX6_readDish_37 ⟨Nat.zero_le _, Nat.zero_le _⟩) hS (fun q _ h => hFc q h) hFc (fun r_37 u t H1 locs ht hvm hw hB hz1 hk1 hS => ?_)
      obtain ⟨hP1, hD1⟩ := hB
      try dsimp only at hw
      rw [hw]
      rw [ht] at hP1
      obtain ⟨hP, hD⟩ := va_join (wr := []) (w1 := [(p_saidMount, .inl (cI, 5, .inl q37.2.1)), (p_this, .inr (6, [.int d_dishes, .int d_speakers, .ref p_speaker, .int d_noises, .ref p_noise, .int d_askers, .ref p_asker, .ref p_st, .ref p_images, .ref p_isKept, .long d_trace, .ref p_text, .int d_texted, .int q37.2.2.1, .int q37.2.2.2.1, .int q37.2.2.2.2.1, .int q37.2.2.2.2.2.1, .long q37.2.2.2.2.2.2.1, .int q37.2.2.2.2.2.2.2, .int d_saidDishes, .ref p_saidMount, .int d_saidSpeakers, .ref p_saidSpeaker, .int d_saidNoises, .ref p_saidNoise, .int d_saidAskers, .ref p_saidAsker, .ref p_room, .int d_couldBe, .int d_couldHere])), (p_text, .inl (cI, 250, .inl d_text))]) hP hD [1, 0, 2] [] rfl rfl (by decide) (by decide) hk1 hFc hP1 hD1
      have hP : va_P (dC, dI) vwCl [(p_this, .inr (6, [.int d_dishes, .int d_speakers, .ref p_speaker, .int d_noises, .ref p_noise, .int d_askers, .ref p_asker, .ref p_st, .ref p_images, .ref p_isKept, .long d_trace, .ref p_text, .int d_texted, .int q37.2.2.1, .int q37.2.2.2.1, .int q37.2.2.2.2.1, .int q37.2.2.2.2.2.1, .long q37.2.2.2.2.2.2.1, .int q37.2.2.2.2.2.2.2, .int d_saidDishes, .ref p_saidMount, .int d_saidSpeakers, .ref p_saidSpeaker, .int d_saidNoises, .ref p_saidNoise, .int d_saidAskers, .ref p_saidAsker, .ref p_room, .int d_couldBe, .int d_couldHere])), (p_saidMount, .inl (cI, 5, .inl q37.2.1)), (p_text, .inl (cI, 250, .inl d_text))] H1 := hP.sub [1, 0, 2] rfl
      have hD : va_D A [(p_this, .inr (6, [.int d_dishes, .int d_speakers, .ref p_speaker, .int d_noises, .ref p_noise, .int d_askers, .ref p_asker, .ref p_st, .ref p_images, .ref p_isKept, .long d_trace, .ref p_text, .int d_texted, .int q37.2.2.1, .int q37.2.2.2.1, .int q37.2.2.2.2.1, .int q37.2.2.2.2.2.1, .long q37.2.2.2.2.2.2.1, .int q37.2.2.2.2.2.2.2, .int d_saidDishes, .ref p_saidMount, .int d_saidSpeakers, .ref p_saidSpeaker, .int d_saidNoises, .ref p_saidNoise, .int d_saidAskers, .ref p_saidAsker, .ref p_room, .int d_couldBe, .int d_couldHere])), (p_saidMount, .inl (cI, 5, .inl q37.2.1)), (p_text, .inl (cI, 250, .inl d_text))] := hD.sub [1, 0, 2] (by decide) rfl
      clear hPc hDc hFc hk1 hz1 hP1 hD1 ht hvm
      generalize H1 = H at hP hS ⊢
      refine lv_pop hx hb dX6_readDish_40 rfl ?_
      refine lv_aload_n hx hb dX6_readDish_41 rfl (lv_at hl 0 rfl) ?_
      refine lv_aload_n hx hb dX6_readDish_42 rfl (lv_at hl 0 rfl) ?_
      refine va_get (D := (dC, dI)) (ci := 6) (v := .int q37.2.2.2.2.1) (C := RX6) (T := TX6) (N := 30) hx hb hts iwX6 hown hK hP 0 rfl rfl 15 (by decide) (hts (.fieldLink RX6 73 "SkyListenersModel" "token" "I") (by decide +kernel)) (fun _ h9 => h9) rfl dX6_readDish_43 ?_
      refine lv_iconst (v := 3) hx hb dX6_readDish_46 (by decide) ?_
      have J55 : ∀ (t1_55 : Int32) (H : Heap) (locs : List Loc), va_P (dC, dI) vwCl [(p_this, .inr (6, [.int d_dishes, .int d_speakers, .ref p_speaker, .int d_noises, .ref p_noise, .int d_askers, .ref p_asker, .ref p_st, .ref p_images, .ref p_isKept, .long d_trace, .ref p_text, .int d_texted, .int q37.2.2.1, .int q37.2.2.2.1, .int q37.2.2.2.2.1, .int q37.2.2.2.2.2.1, .long q37.2.2.2.2.2.2.1, .int q37.2.2.2.2.2.2.2, .int d_saidDishes, .ref p_saidMount, .int d_saidSpeakers, .ref p_saidSpeaker, .int d_saidNoises, .ref p_saidNoise, .int d_saidAskers, .ref p_saidAsker, .ref p_room, .int d_couldBe, .int d_couldHere])), (p_saidMount, .inl (cI, 5, .inl q37.2.1)), (p_text, .inl (cI, 250, .inl d_text))] H → va_D A [(p_this, .inr (6, [.int d_dishes, .int d_speakers, .ref p_speaker, .int d_noises, .ref p_noise, .int d_askers, .ref p_asker, .ref p_st, .ref p_images, .ref p_isKept, .long d_trace, .ref p_text, .int d_texted, .int q37.2.2.1, .int q37.2.2.2.1, .int q37.2.2.2.2.1, .int q37.2.2.2.2.2.1, .long q37.2.2.2.2.2.2.1, .int q37.2.2.2.2.2.2.2, .int d_saidDishes, .ref p_saidMount, .int d_saidSpeakers, .ref p_saidSpeaker, .int d_saidNoises, .ref p_saidNoise, .int d_saidAskers, .ref p_saidAsker, .ref p_room, .int d_couldBe, .int d_couldHere])), (p_saidMount, .inl (cI, 5, .inl q37.2.1)), (p_text, .inl (cI, 250, .inl d_text))] → va_S A s.heap H locs → ∀ ls : Array Slot, lv_has ls 1 [(0, .ref p_this)] → f_X6_readDish_J55 d_texted q37.2.2.1 q37.2.2.2.1 q37.2.2.2.2.1 q37.2.2.2.2.2.1 q37.2.2.2.2.2.2.1 q37.2.2.2.2.2.2.2 d_saidDishes q37.2.1 d_text t1_55 = some out → W p l e ({ frames := 4, cells := 0, slots := 0, locals := 89 } : Room) s m ([.ref p_this] : List Value).toArray below meth c H locs 0 0 Q (F0 m 55 ls [.int t1_55, .ref p_this]) := by
        intro t1_55 H locs hP hD hS ls hl hrun
        rw [f_X6_readDish_J55] at hrun
        obtain ⟨q55, hq55, hrun⟩ := bind_out hrun
        have hPc : va_P (dC, dI) vwCl [(p_this, .inr (6, [.int d_dishes, .int d_speakers, .ref p_speaker, .int d_noises, .ref p_noise, .int d_askers, .ref p_asker, .ref p_st, .ref p_images, .ref p_isKept, .long d_trace, .ref p_text, .int d_texted, .int q37.2.2.1, .int q37.2.2.2.1, .int q37.2.2.2.2.1, .int q37.2.2.2.2.2.1, .long q37.2.2.2.2.2.2.1, .int q37.2.2.2.2.2.2.2, .int d_saidDishes, .ref p_saidMount, .int d_saidSpeakers, .ref p_saidSpeaker, .int d_saidNoises, .ref p_saidNoise, .int d_saidAskers, .ref p_saidAsker, .ref p_room, .int d_couldBe, .int d_couldHere])), (p_text, .inl (cI, 250, .inl d_text))] H := hP.sub [0, 2] rfl
        have hDc : va_D A [(p_this, .inr (6, [.int d_dishes, .int d_speakers, .ref p_speaker, .int d_noises, .ref p_noise, .int d_askers, .ref p_asker, .ref p_st, .ref p_images, .ref p_isKept, .long d_trace, .ref p_text, .int d_texted, .int q37.2.2.1, .int q37.2.2.2.1, .int q37.2.2.2.2.1, .int q37.2.2.2.2.2.1, .long q37.2.2.2.2.2.2.1, .int q37.2.2.2.2.2.2.2, .int d_saidDishes, .ref p_saidMount, .int d_saidSpeakers, .ref p_saidSpeaker, .int d_saidNoises, .ref p_saidNoise, .int d_saidAskers, .ref p_saidAsker, .ref p_room, .int d_couldBe, .int d_couldHere])), (p_text, .inl (cI, 250, .inl d_text))] := hD.sub [0, 2] (by decide) rfl
        have hFc := va_free (wc := [(p_this, .inr (6, [.int d_dishes, .int d_speakers, .ref p_speaker, .int d_noises, .ref p_noise, .int d_askers, .ref p_asker, .ref p_st, .ref p_images, .ref p_isKept, .long d_trace, .ref p_text, .int d_texted, .int q37.2.2.1, .int q37.2.2.2.1, .int q37.2.2.2.2.1, .int q37.2.2.2.2.2.1, .long q37.2.2.2.2.2.2.1, .int q37.2.2.2.2.2.2.2, .int d_saidDishes, .ref p_saidMount, .int d_saidSpeakers, .ref p_saidSpeaker, .int d_saidNoises, .ref p_saidNoise, .int d_saidAskers, .ref p_saidAsker, .ref p_room, .int d_couldBe, .int d_couldHere])), (p_text, .inl (cI, 250, .inl d_text))]) hD hS hA [0, 2] rfl
        refine va_callv (va_runV (As := [.int t1_55]) (rest := []) ⟨hx, hb, hml, hown, hts⟩ (c_X6_must l dC dI cI cZ H.size p_asker p_images p_isKept p_noise p_room p_saidAsker p_saidMount p_saidNoise p_saidSpeaker p_speaker p_st p_text p_this d_dishes d_speakers d_noises d_askers d_trace d_texted q37.2.2.1 q37.2.2.2.1 q37.2.2.2.2.1 q37.2.2.2.2.2.1 q37.2.2.2.2.2.2.1 q37.2.2.2.2.2.2.2 d_saidDishes d_saidSpeakers d_saidNoises d_saidAskers d_couldBe d_couldHere d_text t1_55 q55 hq55) (cwV 1 hts gX6_readDish_X6_must rfl rfl rfl (by decide +kernel) ⟨Nat.le_of_ble_eq_true rfl, Nat.le_of_ble_eq_true rfl⟩) ⟨fun a U g mk q => ⟨q.1, PC.mv q.2⟩, va_recv hK hP (ci := 6) (q0 := 0) rfl rfl, fun U hU hW => ⟨rfl, PC.of hU hW hPc hK hDc hN⟩⟩ rfl rfl hl.1 rfl (lv_room (Nat.le_of_ble_eq_true rfl)) dX6_readDish_55 ⟨Nat.zero_le _, Nat.zero_le _⟩) hS (fun q _ h => hFc q h) hFc (fun u t H1 locs ht hvm hw hB hz1 hk1 hS => ?_)
        obtain ⟨hP1, hD1⟩ := hB
        rw [ht] at hP1
        obtain ⟨hP, hD⟩ := va_join (wr := [(p_saidMount, .inl (cI, 5, .inl q37.2.1))]) (w1 := [(p_this, .inr (6, [.int d_dishes, .int d_speakers, .ref p_speaker, .int d_noises, .ref p_noise, .int d_askers, .ref p_asker, .ref p_st, .ref p_images, .ref p_isKept, .long d_trace, .ref p_text, .int d_texted, .int q55.1, .int q55.2.1, .int q55.2.2.1, .int q55.2.2.2.1, .long q55.2.2.2.2.1, .int q55.2.2.2.2.2, .int d_saidDishes, .ref p_saidMount, .int d_saidSpeakers, .ref p_saidSpeaker, .int d_saidNoises, .ref p_saidNoise, .int d_saidAskers, .ref p_saidAsker, .ref p_room, .int d_couldBe, .int d_couldHere])), (p_text, .inl (cI, 250, .inl d_text))]) hP hD [0, 2] [1] rfl rfl (by decide) (by decide) hk1 hFc hP1 hD1
        have hP : va_P (dC, dI) vwCl [(p_this, .inr (6, [.int d_dishes, .int d_speakers, .ref p_speaker, .int d_noises, .ref p_noise, .int d_askers, .ref p_asker, .ref p_st, .ref p_images, .ref p_isKept, .long d_trace, .ref p_text, .int d_texted, .int q55.1, .int q55.2.1, .int q55.2.2.1, .int q55.2.2.2.1, .long q55.2.2.2.2.1, .int q55.2.2.2.2.2, .int d_saidDishes, .ref p_saidMount, .int d_saidSpeakers, .ref p_saidSpeaker, .int d_saidNoises, .ref p_saidNoise, .int d_saidAskers, .ref p_saidAsker, .ref p_room, .int d_couldBe, .int d_couldHere])), (p_saidMount, .inl (cI, 5, .inl q37.2.1)), (p_text, .inl (cI, 250, .inl d_text))] H1 := hP.sub [1, 0, 2] rfl
        have hD : va_D A [(p_this, .inr (6, [.int d_dishes, .int d_speakers, .ref p_speaker, .int d_noises, .ref p_noise, .int d_askers, .ref p_asker, .ref p_st, .ref p_images, .ref p_isKept, .long d_trace, .ref p_text, .int d_texted, .int q55.1, .int q55.2.1, .int q55.2.2.1, .int q55.2.2.2.1, .long q55.2.2.2.2.1, .int q55.2.2.2.2.2, .int d_saidDishes, .ref p_saidMount, .int d_saidSpeakers, .ref p_saidSpeaker, .int d_saidNoises, .ref p_saidNoise, .int d_saidAskers, .ref p_saidAsker, .ref p_room, .int d_couldBe, .int d_couldHere])), (p_saidMount, .inl (cI, 5, .inl q37.2.1)), (p_text, .inl (cI, 250, .inl d_text))] := hD.sub [1, 0, 2] (by decide) rfl
        clear hPc hDc hFc hk1 hz1 hP1 hD1 ht hvm
        generalize H1 = H at hP hS ⊢
        refine lv_aload_n hx hb dX6_readDish_58 rfl (lv_at hl 0 rfl) ?_
        refine lv_dup hx hb dX6_readDish_59 rfl ?_
        refine va_get (D := (dC, dI)) (ci := 6) (v := .int d_saidDishes) (C := RX6) (T := TX6) (N := 30) hx hb hts iwX6 hown hK hP 0 rfl rfl 19 (by decide) (hts (.fieldLink RX6 94 "SkyListenersModel" "saidDishes" "I") (by decide +kernel)) (fun _ h9 => h9) rfl dX6_readDish_60 ?_
        refine lv_iconst (v := 1) hx hb dX6_readDish_63 (by decide) ?_
        refine lv_iadd hx hb dX6_readDish_64 ?_
        refine va_put (D := (dC, dI)) (ci := 6) (v := .int (d_saidDishes + 1)) (ty := .int) (C := RX6) (T := TX6) (N := 30) hx hb hts iwX6 tyX6 tyX6_ok nmX6 hown hK hP hD hS 0 rfl rfl 19 (by decide) (hts (.fieldLink RX6 94 "SkyListenersModel" "saidDishes" "I") (by decide +kernel)) (fun _ h9 => h9) rfl (by decide +kernel) rfl rfl (Nat.le_of_ble_eq_true rfl) dX6_readDish_65 (fun H locs hP hD hS => ?_)
        have hP : va_P (dC, dI) vwCl [(p_this, .inr (6, [.int d_dishes, .int d_speakers, .ref p_speaker, .int d_noises, .ref p_noise, .int d_askers, .ref p_asker, .ref p_st, .ref p_images, .ref p_isKept, .long d_trace, .ref p_text, .int d_texted, .int q55.1, .int q55.2.1, .int q55.2.2.1, .int q55.2.2.2.1, .long q55.2.2.2.2.1, .int q55.2.2.2.2.2, .int (d_saidDishes + 1), .ref p_saidMount, .int d_saidSpeakers, .ref p_saidSpeaker, .int d_saidNoises, .ref p_saidNoise, .int d_saidAskers, .ref p_saidAsker, .ref p_room, .int d_couldBe, .int d_couldHere])), (p_saidMount, .inl (cI, 5, .inl q37.2.1)), (p_text, .inl (cI, 250, .inl d_text))] H := hP
        have hD : va_D A [(p_this, .inr (6, [.int d_dishes, .int d_speakers, .ref p_speaker, .int d_noises, .ref p_noise, .int d_askers, .ref p_asker, .ref p_st, .ref p_images, .ref p_isKept, .long d_trace, .ref p_text, .int d_texted, .int q55.1, .int q55.2.1, .int q55.2.2.1, .int q55.2.2.2.1, .long q55.2.2.2.2.1, .int q55.2.2.2.2.2, .int (d_saidDishes + 1), .ref p_saidMount, .int d_saidSpeakers, .ref p_saidSpeaker, .int d_saidNoises, .ref p_saidNoise, .int d_saidAskers, .ref p_saidAsker, .ref p_room, .int d_couldBe, .int d_couldHere])), (p_saidMount, .inl (cI, 5, .inl q37.2.1)), (p_text, .inl (cI, 250, .inl d_text))] := hD
        have hrun := Option.some.inj hrun
        subst hrun
        rw [hQ]
        exact W.vret hx hb hr (fun t ht hW => ⟨⟨(), rfl, trivial, by rw [ht]; exact hP, hD⟩, hS.F ht⟩) hS.2.2 dX6_readDish_68
      refine lv_icmp_ne (tgt := 54) hx hb dX6_readDish_47 (by decide) (fun c_47 => ?_) (fun c_47 => ?_)
      · rw [if_neg c_47] at hrun
        refine lv_iconst (v := 0) hx hb dX6_readDish_54 (by decide) ?_
        exact J55 0 H locs hP hD hS ls hl hrun
      · rw [if_pos c_47] at hrun
        refine lv_iconst (v := 1) hx hb dX6_readDish_50 (by decide) ?_
        refine lv_goto (tgt := 55) hx hb dX6_readDish_51 (by decide) ?_
        exact J55 1 H locs hP hD hS ls hl hrun
    · rw [if_neg c_21] at hrun
      have hrun := Option.some.inj hrun
      subst hrun
      rw [hQ]
      exact W.vret hx hb hr (fun t ht hW => ⟨⟨(), rfl, trivial, by rw [ht]; exact hP, hD⟩, hS.F ht⟩) hS.2.2 dX6_readDish_24
  refine lv_icmp_ge (tgt := 13) hx hb dX6_readDish_6 (by decide) (fun c_6 => ?_) (fun c_6 => ?_)
  · rw [if_pos c_6] at hrun
    refine lv_iconst (v := 0) hx hb dX6_readDish_13 (by decide) ?_
    exact J14 0 H locs hP hD hS ls hl hrun
  · rw [if_neg c_6] at hrun
    refine lv_iconst (v := 1) hx hb dX6_readDish_9 (by decide) ?_
    refine lv_goto (tgt := 14) hx hb dX6_readDish_10 (by decide) ?_
    exact J14 1 H locs hP hD hS ls hl hrun
