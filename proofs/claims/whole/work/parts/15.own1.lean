-- SkyListeners.type
def f_X5_type (d_text_length : Int32) (d_text_bytes : Nat → Int32) (x1 : Int64) (x3 : Int32) : Option (Int32 × Int32 × (Nat → Int32)) := (if x3 < 1 then (some ((-1), d_text_length, d_text_bytes)) else (if x3 ≤ 8 then ((f_X3_add d_text_length d_text_bytes x1 x3).bind fun q19 => (if q19.1 = 0 then (some ((-3), q19.2.1, q19.2.2)) else (some (q19.2.1, q19.2.1, q19.2.2)))) else (some ((-1), d_text_length, d_text_bytes))))
set_option maxHeartbeats 4000000 in
set_option maxRecDepth 100000 in
theorem c_X5_type (l : Launch) (dC : Nat → ClassId) (dI : Nat → Nat → Nat) (cI cZ : ClassId) (sz : Nat) (p_draft p_imageOne p_imageZero p_now p_placesOf p_reader p_slots p_text p_text_bytes p_this p_told : Nat) (d_keptImages : Int32) (d_traced : Int64) (d_text_length : Int32) (d_text_next : Int32) (d_text_start : Int32) (d_text_token : Int32) (d_text_value : Int32) (d_text_bytes : Nat → Int32) (x1 : Int64) (x3 : Int32) (out : Int32 × Int32 × (Nat → Int32)) (hrun : f_X5_type d_text_length d_text_bytes x1 x3 = some out) : Met l yX5_type wsX5_type ({ frames := 2, cells := 0, slots := 0, locals := 46 } : Room) (va_Pc [.ref p_this, .long x1, .int x3] (PC dC dI cI cZ sz ([(p_this, .inr (5, [.ref p_text, .ref p_reader, .ref p_told, .ref p_draft, .ref p_now, .ref p_imageZero, .ref p_imageOne, .ref p_slots, .ref p_placesOf, .int d_keptImages, .long d_traced])), (p_text, .inr (3, [.ref p_text_bytes, .int d_text_length, .int d_text_next, .int d_text_start, .int d_text_token, .int d_text_value])), (p_text_bytes, .inl (cI, 250, .inl d_text_bytes))] : va_W))) (va_Qi (fun r (_ : Unit) => r = out.1) (fun _ t => va_P (dC, dI) vwCl [(p_this, .inr (5, [.ref p_text, .ref p_reader, .ref p_told, .ref p_draft, .ref p_now, .ref p_imageZero, .ref p_imageOne, .ref p_slots, .ref p_placesOf, .int d_keptImages, .long d_traced])), (p_text, .inr (3, [.ref p_text_bytes, .int out.2.1, .int d_text_next, .int d_text_start, .int d_text_token, .int d_text_value])), (p_text_bytes, .inl (cI, 250, .inl out.2.2))] t.heap ∧ va_D (va_A ([(p_this, .inr (5, [.ref p_text, .ref p_reader, .ref p_told, .ref p_draft, .ref p_now, .ref p_imageZero, .ref p_imageOne, .ref p_slots, .ref p_placesOf, .int d_keptImages, .long d_traced])), (p_text, .inr (3, [.ref p_text_bytes, .int d_text_length, .int d_text_next, .int d_text_start, .int d_text_token, .int d_text_value])), (p_text_bytes, .inl (cI, 250, .inl d_text_bytes))] : va_W) sz) [(p_this, .inr (5, [.ref p_text, .ref p_reader, .ref p_told, .ref p_draft, .ref p_now, .ref p_imageZero, .ref p_imageOne, .ref p_slots, .ref p_placesOf, .int d_keptImages, .long d_traced])), (p_text, .inr (3, [.ref p_text_bytes, .int out.2.1, .int d_text_next, .int d_text_start, .int d_text_token, .int d_text_value])), (p_text_bytes, .inl (cI, 250, .inl out.2.2))]) (va_A ([(p_this, .inr (5, [.ref p_text, .ref p_reader, .ref p_told, .ref p_draft, .ref p_now, .ref p_imageZero, .ref p_imageOne, .ref p_slots, .ref p_placesOf, .int d_keptImages, .long d_traced])), (p_text, .inr (3, [.ref p_text_bytes, .int d_text_length, .int d_text_next, .int d_text_start, .int d_text_token, .int d_text_value])), (p_text_bytes, .inl (cI, 250, .inl d_text_bytes))] : va_W) sz)) 0 0 (va_A ([(p_this, .inr (5, [.ref p_text, .ref p_reader, .ref p_told, .ref p_draft, .ref p_now, .ref p_imageZero, .ref p_imageOne, .ref p_slots, .ref p_placesOf, .int d_keptImages, .long d_traced])), (p_text, .inr (3, [.ref p_text_bytes, .int d_text_length, .int d_text_next, .int d_text_start, .int d_text_token, .int d_text_value])), (p_text_bytes, .inl (cI, 250, .inl d_text_bytes))] : va_W) sz) := by
  refine Met.ofW (cc := cX5_type) (maxL := 4) (ret := (some .int)) (by decide) rfl ?_
  intro p e s m args below meth c s₁ B hml hv
  obtain ⟨rfl, hsz, hP, hK, hD0, hN⟩ := hv
  have hx := B.exec
  have hb := B.bytes
  have hr := B.returns
  have hts := atoms_spec (ws := wsX5_type) B.pre
  have hown : s.vm.findClass RX5 = some m.cls := findClass_of_methodNamed B.named
  have hlocks := B.notSynchronized
  subst hsz
  have hD := hD0.self (sz := s.heap.size)
  generalize hAe : va_A ([(p_this, .inr (5, [.ref p_text, .ref p_reader, .ref p_told, .ref p_draft, .ref p_now, .ref p_imageZero, .ref p_imageOne, .ref p_slots, .ref p_placesOf, .int d_keptImages, .long d_traced])), (p_text, .inr (3, [.ref p_text_bytes, .int d_text_length, .int d_text_next, .int d_text_start, .int d_text_token, .int d_text_value])), (p_text_bytes, .inl (cI, 250, .inl d_text_bytes))] : va_W) s.heap.size = A at hD ⊢
  have hA : ∀ q : Nat, s.heap.size ≤ q → A q := fun q h => by rw [← hAe]; exact Or.inr h
  have hS : va_S A s.heap s.heap [] := va_S.rf
  refine W_abs (fun Q hQ => ?_)
  have hl := lv_entry ([.ref p_this, .long x1, .int x3]) (n := 4) (Nat.le_of_ble_eq_true rfl)
  rw [lg_entry_eq]
  generalize (lg_sl ([.ref p_this, .long x1, .int x3]) ++ List.replicate (4 - (lg_sl ([.ref p_this, .long x1, .int x3])).length) Slot.unset).toArray = ls at hl ⊢
  have hl : lv_has ls 4 [(0, .ref p_this), (1, .long x1), (3, .int x3)] := hl
  rw [f_X5_type] at hrun
  refine W_start (ws := [(p_this, .inr (5, [.ref p_text, .ref p_reader, .ref p_told, .ref p_draft, .ref p_now, .ref p_imageZero, .ref p_imageOne, .ref p_slots, .ref p_placesOf, .int d_keptImages, .long d_traced])), (p_text, .inr (3, [.ref p_text_bytes, .int d_text_length, .int d_text_next, .int d_text_start, .int d_text_token, .int d_text_value])), (p_text_bytes, .inl (cI, 250, .inl d_text_bytes))]) hP hS (fun H locs hP hS => ?_)
  have iwX3 : ∀ w ∈ wsX30, w ∈ wsX5_type := by decide +kernel
  have iwX5 : ∀ w ∈ wsX50, w ∈ wsX5_type := by decide +kernel
  refine lv_iload_n hx hb dX5_type_0 rfl (lv_at hl 2 rfl) ?_
  refine lv_iconst (v := 1) hx hb dX5_type_1 (by decide) ?_
  refine lv_icmp_lt (tgt := 11) hx hb dX5_type_2 (by decide) (fun c_2 => ?_) (fun c_2 => ?_)
  · rw [if_pos c_2] at hrun
    refine lv_iconst (v := (-1)) hx hb dX5_type_11 (by decide) ?_
    have hrun := Option.some.inj hrun
    subst hrun
    rw [hQ]
    exact W.iret (v := (-1)) hx hb hr (fun t ht hW => ⟨⟨(-1), (), rfl, rfl, by rw [ht]; exact hP, hD⟩, hS.F ht⟩) hS.2.2 dX5_type_12
  · rw [if_neg c_2] at hrun
    refine lv_iload_n hx hb dX5_type_5 rfl (lv_at hl 2 rfl) ?_
    refine lv_bipush (v := 8) hx hb dX5_type_6 (by decide) ?_
    refine lv_icmp_le (tgt := 13) hx hb dX5_type_8 (by decide) (fun c_8 => ?_) (fun c_8 => ?_)
    · rw [if_pos c_8] at hrun
      refine lv_aload_n hx hb dX5_type_13 rfl (lv_at hl 0 rfl) ?_
      refine va_get (D := (dC, dI)) (ci := 5) (v := .ref p_text) (C := RX5) (T := TX5) (N := 11) hx hb hts iwX5 hown hK hP 0 rfl rfl 0 (by decide) (hts (.fieldLink RX5 10 "SkyListeners" "text" "LSkyListeners$Text;") (by decide +kernel)) (fun _ h9 => h9) rfl dX5_type_14 ?_
      refine lv_lload_n hx hb dX5_type_17 rfl (lv_at hl 1 rfl) ?_
      refine lv_iload_n hx hb dX5_type_18 rfl (lv_at hl 2 rfl) ?_
      obtain ⟨q19, hq19, hrun⟩ := bind_out hrun
      have hPc : va_P (dC, dI) vwCl [(p_text, .inr (3, [.ref p_text_bytes, .int d_text_length, .int d_text_next, .int d_text_start, .int d_text_token, .int d_text_value])), (p_text_bytes, .inl (cI, 250, .inl d_text_bytes))] H := hP.sub [1, 2] rfl
      have hDc : va_D A [(p_text, .inr (3, [.ref p_text_bytes, .int d_text_length, .int d_text_next, .int d_text_start, .int d_text_token, .int d_text_value])), (p_text_bytes, .inl (cI, 250, .inl d_text_bytes))] := hD.sub [1, 2] (by decide) rfl
      have hFc := va_free (wc := [(p_text, .inr (3, [.ref p_text_bytes, .int d_text_length, .int d_text_next, .int d_text_start, .int d_text_token, .int d_text_value])), (p_text_bytes, .inl (cI, 250, .inl d_text_bytes))]) hD hS hA [1, 2] rfl
      refine va_calli (va_runV (As := [.long x1, .int x3]) (rest := []) ⟨hx, hb, hml, hown, hts⟩ (c_X3_add l dC dI cI cZ H.size p_text_bytes p_text d_text_length d_text_next d_text_start d_text_token d_text_value d_text_bytes x1 x3 q19 hq19) (cwV 2 hts gX5_type_X3_add rfl rfl rfl (by decide +kernel) ⟨Nat.le_of_ble_eq_true rfl, Nat.le_of_ble_eq_true rfl⟩) ⟨fun a U g mk q => ⟨q.1, PC.mv q.2⟩, va_recv hK hP (ci := 3) (q0 := 1) rfl rfl, fun U hU hW => ⟨rfl, PC.of hU hW hPc hK hDc hN⟩⟩ rfl rfl hl.1 rfl (lv_room (Nat.le_of_ble_eq_true rfl)) dX5_type_19 ⟨Nat.zero_le _, Nat.zero_le _⟩) hS (fun q _ h => hFc q h) hFc (fun r_19 u t H1 locs ht hvm hw hB hz1 hk1 hS => ?_)
      obtain ⟨hP1, hD1⟩ := hB
      try dsimp only at hw
      rw [hw]
      rw [ht] at hP1
      obtain ⟨hP, hD⟩ := va_join (wr := [(p_this, .inr (5, [.ref p_text, .ref p_reader, .ref p_told, .ref p_draft, .ref p_now, .ref p_imageZero, .ref p_imageOne, .ref p_slots, .ref p_placesOf, .int d_keptImages, .long d_traced]))]) (w1 := [(p_text, .inr (3, [.ref p_text_bytes, .int q19.2.1, .int d_text_next, .int d_text_start, .int d_text_token, .int d_text_value])), (p_text_bytes, .inl (cI, 250, .inl q19.2.2))]) hP hD [1, 2] [0] rfl rfl (by decide) (by decide) hk1 hFc hP1 hD1
      have hP : va_P (dC, dI) vwCl [(p_this, .inr (5, [.ref p_text, .ref p_reader, .ref p_told, .ref p_draft, .ref p_now, .ref p_imageZero, .ref p_imageOne, .ref p_slots, .ref p_placesOf, .int d_keptImages, .long d_traced])), (p_text, .inr (3, [.ref p_text_bytes, .int q19.2.1, .int d_text_next, .int d_text_start, .int d_text_token, .int d_text_value])), (p_text_bytes, .inl (cI, 250, .inl q19.2.2))] H1 := hP.sub [0, 1, 2] rfl
      have hD : va_D A [(p_this, .inr (5, [.ref p_text, .ref p_reader, .ref p_told, .ref p_draft, .ref p_now, .ref p_imageZero, .ref p_imageOne, .ref p_slots, .ref p_placesOf, .int d_keptImages, .long d_traced])), (p_text, .inr (3, [.ref p_text_bytes, .int q19.2.1, .int d_text_next, .int d_text_start, .int d_text_token, .int d_text_value])), (p_text_bytes, .inl (cI, 250, .inl q19.2.2))] := hD.sub [0, 1, 2] (by decide) rfl
      clear hPc hDc hFc hk1 hz1 hP1 hD1 ht hvm
      generalize H1 = H at hP hS ⊢
      refine lv_if_eq (tgt := 35) hx hb dX5_type_22 (by decide) (fun c_22 => ?_) (fun c_22 => ?_)
      · rw [if_pos c_22] at hrun
        refine lv_bipush (v := (-3)) hx hb dX5_type_35 (by decide) ?_
        have hrun := Option.some.inj hrun
        subst hrun
        rw [hQ]
        exact W.iret (v := (-3)) hx hb hr (fun t ht hW => ⟨⟨(-3), (), rfl, rfl, by rw [ht]; exact hP, hD⟩, hS.F ht⟩) hS.2.2 dX5_type_37
      · rw [if_neg c_22] at hrun
        refine lv_aload_n hx hb dX5_type_25 rfl (lv_at hl 0 rfl) ?_
        refine va_get (D := (dC, dI)) (ci := 5) (v := .ref p_text) (C := RX5) (T := TX5) (N := 11) hx hb hts iwX5 hown hK hP 0 rfl rfl 0 (by decide) (hts (.fieldLink RX5 10 "SkyListeners" "text" "LSkyListeners$Text;") (by decide +kernel)) (fun _ h9 => h9) rfl dX5_type_26 ?_
        refine va_get (D := (dC, dI)) (ci := 3) (v := .int q19.2.1) (C := RX3) (T := TX3) (N := 6) hx hb hts iwX3 hown hK hP 1 rfl rfl 1 (by decide) (hts (.fieldLink RX5 65 "SkyListeners$Text" "length" "I") (by decide +kernel)) (fun _ h9 => h9) rfl dX5_type_29 ?_
        refine lv_goto (tgt := 37) hx hb dX5_type_32 (by decide) ?_
        have hrun := Option.some.inj hrun
        subst hrun
        rw [hQ]
        exact W.iret (v := q19.2.1) hx hb hr (fun t ht hW => ⟨⟨q19.2.1, (), rfl, rfl, by rw [ht]; exact hP, hD⟩, hS.F ht⟩) hS.2.2 dX5_type_37
    · rw [if_neg c_8] at hrun
      refine lv_iconst (v := (-1)) hx hb dX5_type_11 (by decide) ?_
      have hrun := Option.some.inj hrun
      subst hrun
      rw [hQ]
      exact W.iret (v := (-1)) hx hb hr (fun t ht hW => ⟨⟨(-1), (), rfl, rfl, by rw [ht]; exact hP, hD⟩, hS.F ht⟩) hS.2.2 dX5_type_12
-- SkyListeners.clear
def f_X5_clear (d_text_length : Int32) : Int32 × Int32 := ((d_text_length, (f_X3_empty d_text_length)))
set_option maxHeartbeats 4000000 in
set_option maxRecDepth 100000 in
theorem c_X5_clear (l : Launch) (dC : Nat → ClassId) (dI : Nat → Nat → Nat) (cI cZ : ClassId) (sz : Nat) (p_draft p_imageOne p_imageZero p_now p_placesOf p_reader p_slots p_text p_text_bytes p_this p_told : Nat) (d_keptImages : Int32) (d_traced : Int64) (d_text_length : Int32) (d_text_next : Int32) (d_text_start : Int32) (d_text_token : Int32) (d_text_value : Int32) (out : Int32 × Int32) (hrun : f_X5_clear d_text_length = out) : Met l yX5_clear wsX5_clear ({ frames := 1, cells := 0, slots := 0, locals := 20 } : Room) (va_Pc [.ref p_this] (PC dC dI cI cZ sz ([(p_this, .inr (5, [.ref p_text, .ref p_reader, .ref p_told, .ref p_draft, .ref p_now, .ref p_imageZero, .ref p_imageOne, .ref p_slots, .ref p_placesOf, .int d_keptImages, .long d_traced])), (p_text, .inr (3, [.ref p_text_bytes, .int d_text_length, .int d_text_next, .int d_text_start, .int d_text_token, .int d_text_value]))] : va_W))) (va_Qi (fun r (_ : Unit) => r = out.1) (fun _ t => va_P (dC, dI) vwCl [(p_this, .inr (5, [.ref p_text, .ref p_reader, .ref p_told, .ref p_draft, .ref p_now, .ref p_imageZero, .ref p_imageOne, .ref p_slots, .ref p_placesOf, .int d_keptImages, .long d_traced])), (p_text, .inr (3, [.ref p_text_bytes, .int out.2, .int d_text_next, .int d_text_start, .int d_text_token, .int d_text_value]))] t.heap ∧ va_D (va_A ([(p_this, .inr (5, [.ref p_text, .ref p_reader, .ref p_told, .ref p_draft, .ref p_now, .ref p_imageZero, .ref p_imageOne, .ref p_slots, .ref p_placesOf, .int d_keptImages, .long d_traced])), (p_text, .inr (3, [.ref p_text_bytes, .int d_text_length, .int d_text_next, .int d_text_start, .int d_text_token, .int d_text_value]))] : va_W) sz) [(p_this, .inr (5, [.ref p_text, .ref p_reader, .ref p_told, .ref p_draft, .ref p_now, .ref p_imageZero, .ref p_imageOne, .ref p_slots, .ref p_placesOf, .int d_keptImages, .long d_traced])), (p_text, .inr (3, [.ref p_text_bytes, .int out.2, .int d_text_next, .int d_text_start, .int d_text_token, .int d_text_value]))]) (va_A ([(p_this, .inr (5, [.ref p_text, .ref p_reader, .ref p_told, .ref p_draft, .ref p_now, .ref p_imageZero, .ref p_imageOne, .ref p_slots, .ref p_placesOf, .int d_keptImages, .long d_traced])), (p_text, .inr (3, [.ref p_text_bytes, .int d_text_length, .int d_text_next, .int d_text_start, .int d_text_token, .int d_text_value]))] : va_W) sz)) 0 0 (va_A ([(p_this, .inr (5, [.ref p_text, .ref p_reader, .ref p_told, .ref p_draft, .ref p_now, .ref p_imageZero, .ref p_imageOne, .ref p_slots, .ref p_placesOf, .int d_keptImages, .long d_traced])), (p_text, .inr (3, [.ref p_text_bytes, .int d_text_length, .int d_text_next, .int d_text_start, .int d_text_token, .int d_text_value]))] : va_W) sz) := by
  refine Met.ofW (cc := cX5_clear) (maxL := 2) (ret := (some .int)) (by decide) rfl ?_
  intro p e s m args below meth c s₁ B hml hv
  obtain ⟨rfl, hsz, hP, hK, hD0, hN⟩ := hv
  have hx := B.exec
  have hb := B.bytes
  have hr := B.returns
  have hts := atoms_spec (ws := wsX5_clear) B.pre
  have hown : s.vm.findClass RX5 = some m.cls := findClass_of_methodNamed B.named
  have hlocks := B.notSynchronized
  subst hsz
  have hD := hD0.self (sz := s.heap.size)
  generalize hAe : va_A ([(p_this, .inr (5, [.ref p_text, .ref p_reader, .ref p_told, .ref p_draft, .ref p_now, .ref p_imageZero, .ref p_imageOne, .ref p_slots, .ref p_placesOf, .int d_keptImages, .long d_traced])), (p_text, .inr (3, [.ref p_text_bytes, .int d_text_length, .int d_text_next, .int d_text_start, .int d_text_token, .int d_text_value]))] : va_W) s.heap.size = A at hD ⊢
  have hA : ∀ q : Nat, s.heap.size ≤ q → A q := fun q h => by rw [← hAe]; exact Or.inr h
  have hS : va_S A s.heap s.heap [] := va_S.rf
  refine W_abs (fun Q hQ => ?_)
  have hl := lv_entry ([.ref p_this]) (n := 2) (Nat.le_of_ble_eq_true rfl)
  rw [lg_entry_eq]
  generalize (lg_sl ([.ref p_this]) ++ List.replicate (2 - (lg_sl ([.ref p_this])).length) Slot.unset).toArray = ls at hl ⊢
  have hl : lv_has ls 2 [(0, .ref p_this)] := hl
  rw [f_X5_clear] at hrun
  refine W_start (ws := [(p_this, .inr (5, [.ref p_text, .ref p_reader, .ref p_told, .ref p_draft, .ref p_now, .ref p_imageZero, .ref p_imageOne, .ref p_slots, .ref p_placesOf, .int d_keptImages, .long d_traced])), (p_text, .inr (3, [.ref p_text_bytes, .int d_text_length, .int d_text_next, .int d_text_start, .int d_text_token, .int d_text_value]))]) hP hS (fun H locs hP hS => ?_)
  have iwX3 : ∀ w ∈ wsX30, w ∈ wsX5_clear := by decide +kernel
  have iwX5 : ∀ w ∈ wsX50, w ∈ wsX5_clear := by decide +kernel
  refine lv_aload_n hx hb dX5_clear_0 rfl (lv_at hl 0 rfl) ?_
  refine va_get (D := (dC, dI)) (ci := 5) (v := .ref p_text) (C := RX5) (T := TX5) (N := 11) hx hb hts iwX5 hown hK hP 0 rfl rfl 0 (by decide) (hts (.fieldLink RX5 10 "SkyListeners" "text" "LSkyListeners$Text;") (by decide +kernel)) (fun _ h9 => h9) rfl dX5_clear_1 ?_
  refine va_get (D := (dC, dI)) (ci := 3) (v := .int d_text_length) (C := RX3) (T := TX3) (N := 6) hx hb hts iwX3 hown hK hP 1 rfl rfl 1 (by decide) (hts (.fieldLink RX5 65 "SkyListeners$Text" "length" "I") (by decide +kernel)) (fun _ h9 => h9) rfl dX5_clear_4 ?_
  refine lv_istore_n (lv' := [(1, .int d_text_length), (0, .ref p_this)]) hx hb dX5_clear_7 rfl hl (by decide) rfl (fun ls hl => ?_)
  refine lv_aload_n hx hb dX5_clear_8 rfl (lv_at hl 1 rfl) ?_
  refine va_get (D := (dC, dI)) (ci := 5) (v := .ref p_text) (C := RX5) (T := TX5) (N := 11) hx hb hts iwX5 hown hK hP 0 rfl rfl 0 (by decide) (hts (.fieldLink RX5 10 "SkyListeners" "text" "LSkyListeners$Text;") (by decide +kernel)) (fun _ h9 => h9) rfl dX5_clear_9 ?_
  have hPc : va_P (dC, dI) vwCl [(p_text, .inr (3, [.ref p_text_bytes, .int d_text_length, .int d_text_next, .int d_text_start, .int d_text_token, .int d_text_value]))] H := hP.sub [1] rfl
  have hDc : va_D A [(p_text, .inr (3, [.ref p_text_bytes, .int d_text_length, .int d_text_next, .int d_text_start, .int d_text_token, .int d_text_value]))] := hD.sub [1] (by decide) rfl
  have hFc := va_free (wc := [(p_text, .inr (3, [.ref p_text_bytes, .int d_text_length, .int d_text_next, .int d_text_start, .int d_text_token, .int d_text_value]))]) hD hS hA [1] rfl
  refine va_callv (va_runV (As := []) (rest := []) ⟨hx, hb, hml, hown, hts⟩ (c_X3_empty l dC dI cI cZ H.size p_text_bytes p_text d_text_length d_text_next d_text_start d_text_token d_text_value (f_X3_empty d_text_length) rfl) (cwV 0 hts gX5_clear_X3_empty rfl rfl rfl (by decide +kernel) ⟨Nat.le_of_ble_eq_true rfl, Nat.le_of_ble_eq_true rfl⟩) ⟨fun a U g mk q => ⟨q.1, PC.mv q.2⟩, va_recv hK hP (ci := 3) (q0 := 1) rfl rfl, fun U hU hW => ⟨rfl, PC.of hU hW hPc hK hDc hN⟩⟩ rfl rfl hl.1 rfl (lv_room (Nat.le_of_ble_eq_true rfl)) dX5_clear_12 ⟨Nat.zero_le _, Nat.zero_le _⟩) hS (fun q _ h => hFc q h) hFc (fun u t H1 locs ht hvm hw hB hz1 hk1 hS => ?_)
  obtain ⟨hP1, hD1⟩ := hB
  rw [ht] at hP1
  obtain ⟨hP, hD⟩ := va_join (wr := [(p_this, .inr (5, [.ref p_text, .ref p_reader, .ref p_told, .ref p_draft, .ref p_now, .ref p_imageZero, .ref p_imageOne, .ref p_slots, .ref p_placesOf, .int d_keptImages, .long d_traced]))]) (w1 := [(p_text, .inr (3, [.ref p_text_bytes, .int (f_X3_empty d_text_length), .int d_text_next, .int d_text_start, .int d_text_token, .int d_text_value]))]) hP hD [1] [0] rfl rfl (by decide) (by decide) hk1 hFc hP1 hD1
  have hP : va_P (dC, dI) vwCl [(p_this, .inr (5, [.ref p_text, .ref p_reader, .ref p_told, .ref p_draft, .ref p_now, .ref p_imageZero, .ref p_imageOne, .ref p_slots, .ref p_placesOf, .int d_keptImages, .long d_traced])), (p_text, .inr (3, [.ref p_text_bytes, .int (f_X3_empty d_text_length), .int d_text_next, .int d_text_start, .int d_text_token, .int d_text_value]))] H1 := hP.sub [0, 1] rfl
  have hD : va_D A [(p_this, .inr (5, [.ref p_text, .ref p_reader, .ref p_told, .ref p_draft, .ref p_now, .ref p_imageZero, .ref p_imageOne, .ref p_slots, .ref p_placesOf, .int d_keptImages, .long d_traced])), (p_text, .inr (3, [.ref p_text_bytes, .int (f_X3_empty d_text_length), .int d_text_next, .int d_text_start, .int d_text_token, .int d_text_value]))] := hD.sub [0, 1] (by decide) rfl
  clear hPc hDc hFc hk1 hz1 hP1 hD1 ht hvm
  generalize H1 = H at hP hS ⊢
  refine lv_iload_n hx hb dX5_clear_15 rfl (lv_at hl 0 rfl) ?_
  have hrun := hrun
  subst hrun
  rw [hQ]
  exact W.iret (v := d_text_length) hx hb hr (fun t ht hW => ⟨⟨d_text_length, (), rfl, rfl, by rw [ht]; exact hP, hD⟩, hS.F ht⟩) hS.2.2 dX5_clear_16
-- SkyListeners.isDish
def f_X5_isDish (d_now_mounts_many : Int32) (x1 : Int32) : Int32 := (if x1 < 0 then (0) else (if d_now_mounts_many ≤ x1 then (0) else (1)))
theorem b_X5_isDish (d_now_mounts_many : Int32) (x1 : Int32) : f_X5_isDish d_now_mounts_many x1 = 0 ∨ f_X5_isDish d_now_mounts_many x1 = 1 := by unfold f_X5_isDish; first | (repeat' split) <;> first | exact Or.inl rfl | exact Or.inr rfl
set_option maxHeartbeats 4000000 in
set_option maxRecDepth 100000 in
theorem c_X5_isDish (l : Launch) (dC : Nat → ClassId) (dI : Nat → Nat → Nat) (cI cZ : ClassId) (sz : Nat) (p_draft p_imageOne p_imageZero p_now p_now_lendings p_now_log p_now_mounts p_now_mounts_cells p_now_undos p_placesOf p_reader p_slots p_text p_this p_told : Nat) (d_keptImages : Int32) (d_traced : Int64) (d_now_mounts_most : Int32) (d_now_mounts_many : Int32) (x1 : Int32) (out : Int32) (hrun : f_X5_isDish d_now_mounts_many x1 = out) : Met l yX5_isDish wsX5_isDish ({ frames := 0, cells := 0, slots := 0, locals := 0 } : Room) (va_Pc [.ref p_this, .int x1] (PC dC dI cI cZ sz ([(p_this, .inr (5, [.ref p_text, .ref p_reader, .ref p_told, .ref p_draft, .ref p_now, .ref p_imageZero, .ref p_imageOne, .ref p_slots, .ref p_placesOf, .int d_keptImages, .long d_traced])), (p_now, .inr (0, [.ref p_now_mounts, .ref p_now_lendings, .ref p_now_log, .ref p_now_undos])), (p_now_mounts, .inr (2, [.int d_now_mounts_most, .ref p_now_mounts_cells, .int d_now_mounts_many]))] : va_W))) (va_Qi (fun r (_ : Unit) => r = out) (fun _ t => va_P (dC, dI) vwCl [(p_this, .inr (5, [.ref p_text, .ref p_reader, .ref p_told, .ref p_draft, .ref p_now, .ref p_imageZero, .ref p_imageOne, .ref p_slots, .ref p_placesOf, .int d_keptImages, .long d_traced])), (p_now, .inr (0, [.ref p_now_mounts, .ref p_now_lendings, .ref p_now_log, .ref p_now_undos])), (p_now_mounts, .inr (2, [.int d_now_mounts_most, .ref p_now_mounts_cells, .int d_now_mounts_many]))] t.heap ∧ va_D (va_A ([(p_this, .inr (5, [.ref p_text, .ref p_reader, .ref p_told, .ref p_draft, .ref p_now, .ref p_imageZero, .ref p_imageOne, .ref p_slots, .ref p_placesOf, .int d_keptImages, .long d_traced])), (p_now, .inr (0, [.ref p_now_mounts, .ref p_now_lendings, .ref p_now_log, .ref p_now_undos])), (p_now_mounts, .inr (2, [.int d_now_mounts_most, .ref p_now_mounts_cells, .int d_now_mounts_many]))] : va_W) sz) [(p_this, .inr (5, [.ref p_text, .ref p_reader, .ref p_told, .ref p_draft, .ref p_now, .ref p_imageZero, .ref p_imageOne, .ref p_slots, .ref p_placesOf, .int d_keptImages, .long d_traced])), (p_now, .inr (0, [.ref p_now_mounts, .ref p_now_lendings, .ref p_now_log, .ref p_now_undos])), (p_now_mounts, .inr (2, [.int d_now_mounts_most, .ref p_now_mounts_cells, .int d_now_mounts_many]))]) (va_A ([(p_this, .inr (5, [.ref p_text, .ref p_reader, .ref p_told, .ref p_draft, .ref p_now, .ref p_imageZero, .ref p_imageOne, .ref p_slots, .ref p_placesOf, .int d_keptImages, .long d_traced])), (p_now, .inr (0, [.ref p_now_mounts, .ref p_now_lendings, .ref p_now_log, .ref p_now_undos])), (p_now_mounts, .inr (2, [.int d_now_mounts_most, .ref p_now_mounts_cells, .int d_now_mounts_many]))] : va_W) sz)) 0 0 (va_A ([(p_this, .inr (5, [.ref p_text, .ref p_reader, .ref p_told, .ref p_draft, .ref p_now, .ref p_imageZero, .ref p_imageOne, .ref p_slots, .ref p_placesOf, .int d_keptImages, .long d_traced])), (p_now, .inr (0, [.ref p_now_mounts, .ref p_now_lendings, .ref p_now_log, .ref p_now_undos])), (p_now_mounts, .inr (2, [.int d_now_mounts_most, .ref p_now_mounts_cells, .int d_now_mounts_many]))] : va_W) sz) := by
  refine Met.ofW (cc := cX5_isDish) (maxL := 2) (ret := (some .boolean)) (by decide) rfl ?_
  intro p e s m args below meth c s₁ B hml hv
  obtain ⟨rfl, hsz, hP, hK, hD0, hN⟩ := hv
  have hx := B.exec
  have hb := B.bytes
  have hr := B.returns
  have hts := atoms_spec (ws := wsX5_isDish) B.pre
  have hown : s.vm.findClass RX5 = some m.cls := findClass_of_methodNamed B.named
  have hlocks := B.notSynchronized
  subst hsz
  have hD := hD0.self (sz := s.heap.size)
  generalize hAe : va_A ([(p_this, .inr (5, [.ref p_text, .ref p_reader, .ref p_told, .ref p_draft, .ref p_now, .ref p_imageZero, .ref p_imageOne, .ref p_slots, .ref p_placesOf, .int d_keptImages, .long d_traced])), (p_now, .inr (0, [.ref p_now_mounts, .ref p_now_lendings, .ref p_now_log, .ref p_now_undos])), (p_now_mounts, .inr (2, [.int d_now_mounts_most, .ref p_now_mounts_cells, .int d_now_mounts_many]))] : va_W) s.heap.size = A at hD ⊢
  have hA : ∀ q : Nat, s.heap.size ≤ q → A q := fun q h => by rw [← hAe]; exact Or.inr h
  have hS : va_S A s.heap s.heap [] := va_S.rf
  refine W_abs (fun Q hQ => ?_)
  have hl := lv_entry ([.ref p_this, .int x1]) (n := 2) (Nat.le_of_ble_eq_true rfl)
  rw [lg_entry_eq]
  generalize (lg_sl ([.ref p_this, .int x1]) ++ List.replicate (2 - (lg_sl ([.ref p_this, .int x1])).length) Slot.unset).toArray = ls at hl ⊢
  have hl : lv_has ls 2 [(0, .ref p_this), (1, .int x1)] := hl
  rw [f_X5_isDish] at hrun
  refine W_start (ws := [(p_this, .inr (5, [.ref p_text, .ref p_reader, .ref p_told, .ref p_draft, .ref p_now, .ref p_imageZero, .ref p_imageOne, .ref p_slots, .ref p_placesOf, .int d_keptImages, .long d_traced])), (p_now, .inr (0, [.ref p_now_mounts, .ref p_now_lendings, .ref p_now_log, .ref p_now_undos])), (p_now_mounts, .inr (2, [.int d_now_mounts_most, .ref p_now_mounts_cells, .int d_now_mounts_many]))]) hP hS (fun H locs hP hS => ?_)
  have iwX0 : ∀ w ∈ wsX00, w ∈ wsX5_isDish := by decide +kernel
  have iwX2 : ∀ w ∈ wsX20, w ∈ wsX5_isDish := by decide +kernel
  have iwX5 : ∀ w ∈ wsX50, w ∈ wsX5_isDish := by decide +kernel
  refine lv_iload_n hx hb dX5_isDish_0 rfl (lv_at hl 1 rfl) ?_
  refine lv_if_lt (tgt := 22) hx hb dX5_isDish_1 (by decide) (fun c_1 => ?_) (fun c_1 => ?_)
  · rw [if_pos c_1] at hrun
    refine lv_iconst (v := 0) hx hb dX5_isDish_22 (by decide) ?_
    have hrun := hrun
    subst hrun
    rw [hQ]
    exact W.zret (v := 0) (ty := .boolean) hx hb hr rfl (fun t ht hW => ⟨⟨0, (), rfl, rfl, by rw [ht]; exact hP, hD⟩, hS.F ht⟩) hS.2.2 dX5_isDish_23
  · rw [if_neg c_1] at hrun
    refine lv_iload_n hx hb dX5_isDish_4 rfl (lv_at hl 1 rfl) ?_
    refine lv_aload_n hx hb dX5_isDish_5 rfl (lv_at hl 0 rfl) ?_
    refine va_get (D := (dC, dI)) (ci := 5) (v := .ref p_now) (C := RX5) (T := TX5) (N := 11) hx hb hts iwX5 hown hK hP 0 rfl rfl 4 (by decide) (hts (.fieldLink RX5 36 "SkyListeners" "now" "LSkyListeners$Now;") (by decide +kernel)) (fun _ h9 => h9) rfl dX5_isDish_6 ?_
    refine va_get (D := (dC, dI)) (ci := 0) (v := .ref p_now_mounts) (C := RX0) (T := TX0) (N := 4) hx hb hts iwX0 hown hK hP 1 rfl rfl 0 (by decide) (hts (.fieldLink RX5 115 "SkyListeners$Now" "mounts" "LSkyListeners$Rows;") (by decide +kernel)) (fun _ h9 => h9) rfl dX5_isDish_9 ?_
    refine va_get (D := (dC, dI)) (ci := 2) (v := .int d_now_mounts_many) (C := RX2) (T := TX2) (N := 3) hx hb hts iwX2 hown hK hP 2 rfl rfl 2 (by decide) (hts (.fieldLink RX5 136 "SkyListeners$Rows" "many" "I") (by decide +kernel)) (fun _ h9 => h9) rfl dX5_isDish_12 ?_
    refine lv_icmp_ge (tgt := 22) hx hb dX5_isDish_15 (by decide) (fun c_15 => ?_) (fun c_15 => ?_)
    · rw [if_pos c_15] at hrun
      refine lv_iconst (v := 0) hx hb dX5_isDish_22 (by decide) ?_
      have hrun := hrun
      subst hrun
      rw [hQ]
      exact W.zret (v := 0) (ty := .boolean) hx hb hr rfl (fun t ht hW => ⟨⟨0, (), rfl, rfl, by rw [ht]; exact hP, hD⟩, hS.F ht⟩) hS.2.2 dX5_isDish_23
    · rw [if_neg c_15] at hrun
      refine lv_iconst (v := 1) hx hb dX5_isDish_18 (by decide) ?_
      refine lv_goto (tgt := 23) hx hb dX5_isDish_19 (by decide) ?_
      have hrun := hrun
      subst hrun
      rw [hQ]
      exact W.zret (v := 1) (ty := .boolean) hx hb hr rfl (fun t ht hW => ⟨⟨1, (), rfl, rfl, by rw [ht]; exact hP, hD⟩, hS.F ht⟩) hS.2.2 dX5_isDish_23
-- SkyListeners.isHour
def f_X5_isHour (x0 : Int32) : Int32 := (if x0 < 0 then (0) else (if 24 ≤ x0 then (0) else (1)))
theorem b_X5_isHour (x0 : Int32) : f_X5_isHour x0 = 0 ∨ f_X5_isHour x0 = 1 := by unfold f_X5_isHour; first | (repeat' split) <;> first | exact Or.inl rfl | exact Or.inr rfl
set_option maxHeartbeats 4000000 in
set_option maxRecDepth 100000 in
theorem c_X5_isHour (l : Launch) (dC : Nat → ClassId) (dI : Nat → Nat → Nat) (cI cZ : ClassId) (sz : Nat) (x0 : Int32) (out : Int32) (hrun : f_X5_isHour x0 = out) : Met l yX5_isHour wsX5_isHour ({ frames := 0, cells := 0, slots := 0, locals := 0 } : Room) (va_Pc [.int x0] (PC dC dI cI cZ sz ([] : va_W))) (va_Qi (fun r (_ : Unit) => r = out) (fun _ t => va_P (dC, dI) vwCl [] t.heap ∧ va_D (va_A ([] : va_W) sz) []) (va_A ([] : va_W) sz)) 0 0 (va_A ([] : va_W) sz) := by
  refine Met.ofW (cc := cX5_isHour) (maxL := 1) (ret := (some .boolean)) (by decide) rfl ?_
  intro p e s m args below meth c s₁ B hml hv
  obtain ⟨rfl, hsz, hP, hK, hD0, hN⟩ := hv
  have hx := B.exec
  have hb := B.bytes
  have hr := B.returns
  have hts := atoms_spec (ws := wsX5_isHour) B.pre
  have hown : s.vm.findClass RX5 = some m.cls := findClass_of_methodNamed B.named
  have hlocks := B.notSynchronized
  subst hsz
  have hD := hD0.self (sz := s.heap.size)
  generalize hAe : va_A ([] : va_W) s.heap.size = A at hD ⊢
  have hA : ∀ q : Nat, s.heap.size ≤ q → A q := fun q h => by rw [← hAe]; exact Or.inr h
  have hS : va_S A s.heap s.heap [] := va_S.rf
  refine W_abs (fun Q hQ => ?_)
  have hl := lv_entry ([.int x0]) (n := 1) (Nat.le_of_ble_eq_true rfl)
  rw [lg_entry_eq]
  generalize (lg_sl ([.int x0]) ++ List.replicate (1 - (lg_sl ([.int x0])).length) Slot.unset).toArray = ls at hl ⊢
  have hl : lv_has ls 1 [(0, .int x0)] := hl
  rw [f_X5_isHour] at hrun
  refine W_start (ws := []) hP hS (fun H locs hP hS => ?_)
  refine lv_iload_n hx hb dX5_isHour_0 rfl (lv_at hl 0 rfl) ?_
  refine lv_if_lt (tgt := 14) hx hb dX5_isHour_1 (by decide) (fun c_1 => ?_) (fun c_1 => ?_)
  · rw [if_pos c_1] at hrun
    refine lv_iconst (v := 0) hx hb dX5_isHour_14 (by decide) ?_
    have hrun := hrun
    subst hrun
    rw [hQ]
    exact W.zret (v := 0) (ty := .boolean) hx hb hr rfl (fun t ht hW => ⟨⟨0, (), rfl, rfl, by rw [ht]; exact hP, hD⟩, hS.F ht⟩) hS.2.2 dX5_isHour_15
  · rw [if_neg c_1] at hrun
    refine lv_iload_n hx hb dX5_isHour_4 rfl (lv_at hl 0 rfl) ?_
    refine lv_bipush (v := 24) hx hb dX5_isHour_5 (by decide) ?_
    refine lv_icmp_ge (tgt := 14) hx hb dX5_isHour_7 (by decide) (fun c_7 => ?_) (fun c_7 => ?_)
    · rw [if_pos c_7] at hrun
      refine lv_iconst (v := 0) hx hb dX5_isHour_14 (by decide) ?_
      have hrun := hrun
      subst hrun
      rw [hQ]
      exact W.zret (v := 0) (ty := .boolean) hx hb hr rfl (fun t ht hW => ⟨⟨0, (), rfl, rfl, by rw [ht]; exact hP, hD⟩, hS.F ht⟩) hS.2.2 dX5_isHour_15
    · rw [if_neg c_7] at hrun
      refine lv_iconst (v := 1) hx hb dX5_isHour_10 (by decide) ?_
      refine lv_goto (tgt := 15) hx hb dX5_isHour_11 (by decide) ?_
      have hrun := hrun
      subst hrun
      rw [hQ]
      exact W.zret (v := 1) (ty := .boolean) hx hb hr rfl (fun t ht hW => ⟨⟨1, (), rfl, rfl, by rw [ht]; exact hP, hD⟩, hS.F ht⟩) hS.2.2 dX5_isHour_15
-- SkyListeners.looks
def f_X5_looks (d_now_mounts_many : Int32) (d_now_mounts_cells : Nat → Int32) (x1 : Int32) (x2 : Int32) : Int32 := (if (f_X5_isDish d_now_mounts_many x1) = 0 then ((-1)) else (if (f_X5_isHour x2) = 0 then ((-1)) else ((f_X0_placeSeen d_now_mounts_many d_now_mounts_cells x1 x2))))
set_option maxHeartbeats 4000000 in
set_option maxRecDepth 100000 in
theorem c_X5_looks (l : Launch) (dC : Nat → ClassId) (dI : Nat → Nat → Nat) (cI cZ : ClassId) (sz : Nat) (p_draft p_imageOne p_imageZero p_now p_now_lendings p_now_log p_now_mounts p_now_mounts_cells p_now_undos p_placesOf p_reader p_slots p_text p_this p_told : Nat) (d_keptImages : Int32) (d_traced : Int64) (d_now_mounts_most : Int32) (d_now_mounts_many : Int32) (d_now_mounts_cells : Nat → Int32) (x1 : Int32) (x2 : Int32) (out : Int32) (hrun : f_X5_looks d_now_mounts_many d_now_mounts_cells x1 x2 = out) : Met l yX5_looks wsX5_looks ({ frames := 3, cells := 0, slots := 0, locals := 66 } : Room) (va_Pc [.ref p_this, .int x1, .int x2] (PC dC dI cI cZ sz ([(p_this, .inr (5, [.ref p_text, .ref p_reader, .ref p_told, .ref p_draft, .ref p_now, .ref p_imageZero, .ref p_imageOne, .ref p_slots, .ref p_placesOf, .int d_keptImages, .long d_traced])), (p_now, .inr (0, [.ref p_now_mounts, .ref p_now_lendings, .ref p_now_log, .ref p_now_undos])), (p_now_mounts, .inr (2, [.int d_now_mounts_most, .ref p_now_mounts_cells, .int d_now_mounts_many])), (p_now_mounts_cells, .inl (cI, 48, .inl d_now_mounts_cells))] : va_W))) (va_Qi (fun r (_ : Unit) => r = out) (fun _ t => va_P (dC, dI) vwCl [(p_this, .inr (5, [.ref p_text, .ref p_reader, .ref p_told, .ref p_draft, .ref p_now, .ref p_imageZero, .ref p_imageOne, .ref p_slots, .ref p_placesOf, .int d_keptImages, .long d_traced])), (p_now, .inr (0, [.ref p_now_mounts, .ref p_now_lendings, .ref p_now_log, .ref p_now_undos])), (p_now_mounts, .inr (2, [.int d_now_mounts_most, .ref p_now_mounts_cells, .int d_now_mounts_many])), (p_now_mounts_cells, .inl (cI, 48, .inl d_now_mounts_cells))] t.heap ∧ va_D (va_A ([(p_this, .inr (5, [.ref p_text, .ref p_reader, .ref p_told, .ref p_draft, .ref p_now, .ref p_imageZero, .ref p_imageOne, .ref p_slots, .ref p_placesOf, .int d_keptImages, .long d_traced])), (p_now, .inr (0, [.ref p_now_mounts, .ref p_now_lendings, .ref p_now_log, .ref p_now_undos])), (p_now_mounts, .inr (2, [.int d_now_mounts_most, .ref p_now_mounts_cells, .int d_now_mounts_many])), (p_now_mounts_cells, .inl (cI, 48, .inl d_now_mounts_cells))] : va_W) sz) [(p_this, .inr (5, [.ref p_text, .ref p_reader, .ref p_told, .ref p_draft, .ref p_now, .ref p_imageZero, .ref p_imageOne, .ref p_slots, .ref p_placesOf, .int d_keptImages, .long d_traced])), (p_now, .inr (0, [.ref p_now_mounts, .ref p_now_lendings, .ref p_now_log, .ref p_now_undos])), (p_now_mounts, .inr (2, [.int d_now_mounts_most, .ref p_now_mounts_cells, .int d_now_mounts_many])), (p_now_mounts_cells, .inl (cI, 48, .inl d_now_mounts_cells))]) (va_A ([(p_this, .inr (5, [.ref p_text, .ref p_reader, .ref p_told, .ref p_draft, .ref p_now, .ref p_imageZero, .ref p_imageOne, .ref p_slots, .ref p_placesOf, .int d_keptImages, .long d_traced])), (p_now, .inr (0, [.ref p_now_mounts, .ref p_now_lendings, .ref p_now_log, .ref p_now_undos])), (p_now_mounts, .inr (2, [.int d_now_mounts_most, .ref p_now_mounts_cells, .int d_now_mounts_many])), (p_now_mounts_cells, .inl (cI, 48, .inl d_now_mounts_cells))] : va_W) sz)) 0 0 (va_A ([(p_this, .inr (5, [.ref p_text, .ref p_reader, .ref p_told, .ref p_draft, .ref p_now, .ref p_imageZero, .ref p_imageOne, .ref p_slots, .ref p_placesOf, .int d_keptImages, .long d_traced])), (p_now, .inr (0, [.ref p_now_mounts, .ref p_now_lendings, .ref p_now_log, .ref p_now_undos])), (p_now_mounts, .inr (2, [.int d_now_mounts_most, .ref p_now_mounts_cells, .int d_now_mounts_many])), (p_now_mounts_cells, .inl (cI, 48, .inl d_now_mounts_cells))] : va_W) sz) := by
  refine Met.ofW (cc := cX5_looks) (maxL := 3) (ret := (some .int)) (by decide) rfl ?_
  intro p e s m args below meth c s₁ B hml hv
  obtain ⟨rfl, hsz, hP, hK, hD0, hN⟩ := hv
  have hx := B.exec
  have hb := B.bytes
  have hr := B.returns
  have hts := atoms_spec (ws := wsX5_looks) B.pre
  have hown : s.vm.findClass RX5 = some m.cls := findClass_of_methodNamed B.named
  have hlocks := B.notSynchronized
  subst hsz
  have hD := hD0.self (sz := s.heap.size)
  generalize hAe : va_A ([(p_this, .inr (5, [.ref p_text, .ref p_reader, .ref p_told, .ref p_draft, .ref p_now, .ref p_imageZero, .ref p_imageOne, .ref p_slots, .ref p_placesOf, .int d_keptImages, .long d_traced])), (p_now, .inr (0, [.ref p_now_mounts, .ref p_now_lendings, .ref p_now_log, .ref p_now_undos])), (p_now_mounts, .inr (2, [.int d_now_mounts_most, .ref p_now_mounts_cells, .int d_now_mounts_many])), (p_now_mounts_cells, .inl (cI, 48, .inl d_now_mounts_cells))] : va_W) s.heap.size = A at hD ⊢
  have hA : ∀ q : Nat, s.heap.size ≤ q → A q := fun q h => by rw [← hAe]; exact Or.inr h
  have hS : va_S A s.heap s.heap [] := va_S.rf
  refine W_abs (fun Q hQ => ?_)
  have hl := lv_entry ([.ref p_this, .int x1, .int x2]) (n := 3) (Nat.le_of_ble_eq_true rfl)
  rw [lg_entry_eq]
  generalize (lg_sl ([.ref p_this, .int x1, .int x2]) ++ List.replicate (3 - (lg_sl ([.ref p_this, .int x1, .int x2])).length) Slot.unset).toArray = ls at hl ⊢
  have hl : lv_has ls 3 [(0, .ref p_this), (1, .int x1), (2, .int x2)] := hl
  rw [f_X5_looks] at hrun
  refine W_start (ws := [(p_this, .inr (5, [.ref p_text, .ref p_reader, .ref p_told, .ref p_draft, .ref p_now, .ref p_imageZero, .ref p_imageOne, .ref p_slots, .ref p_placesOf, .int d_keptImages, .long d_traced])), (p_now, .inr (0, [.ref p_now_mounts, .ref p_now_lendings, .ref p_now_log, .ref p_now_undos])), (p_now_mounts, .inr (2, [.int d_now_mounts_most, .ref p_now_mounts_cells, .int d_now_mounts_many])), (p_now_mounts_cells, .inl (cI, 48, .inl d_now_mounts_cells))]) hP hS (fun H locs hP hS => ?_)
  have iwX5 : ∀ w ∈ wsX50, w ∈ wsX5_looks := by decide +kernel
  refine lv_aload_n hx hb dX5_looks_0 rfl (lv_at hl 0 rfl) ?_
  refine lv_iload_n hx hb dX5_looks_1 rfl (lv_at hl 1 rfl) ?_
  have hPc : va_P (dC, dI) vwCl [(p_this, .inr (5, [.ref p_text, .ref p_reader, .ref p_told, .ref p_draft, .ref p_now, .ref p_imageZero, .ref p_imageOne, .ref p_slots, .ref p_placesOf, .int d_keptImages, .long d_traced])), (p_now, .inr (0, [.ref p_now_mounts, .ref p_now_lendings, .ref p_now_log, .ref p_now_undos])), (p_now_mounts, .inr (2, [.int d_now_mounts_most, .ref p_now_mounts_cells, .int d_now_mounts_many]))] H := hP.sub [0, 1, 2] rfl
  have hDc : va_D A [(p_this, .inr (5, [.ref p_text, .ref p_reader, .ref p_told, .ref p_draft, .ref p_now, .ref p_imageZero, .ref p_imageOne, .ref p_slots, .ref p_placesOf, .int d_keptImages, .long d_traced])), (p_now, .inr (0, [.ref p_now_mounts, .ref p_now_lendings, .ref p_now_log, .ref p_now_undos])), (p_now_mounts, .inr (2, [.int d_now_mounts_most, .ref p_now_mounts_cells, .int d_now_mounts_many]))] := hD.sub [0, 1, 2] (by decide) rfl
  have hFc := va_free (wc := [(p_this, .inr (5, [.ref p_text, .ref p_reader, .ref p_told, .ref p_draft, .ref p_now, .ref p_imageZero, .ref p_imageOne, .ref p_slots, .ref p_placesOf, .int d_keptImages, .long d_traced])), (p_now, .inr (0, [.ref p_now_mounts, .ref p_now_lendings, .ref p_now_log, .ref p_now_undos])), (p_now_mounts, .inr (2, [.int d_now_mounts_most, .ref p_now_mounts_cells, .int d_now_mounts_many]))]) hD hS hA [0, 1, 2] rfl
  refine va_calli (va_runV (As := [.int x1]) (rest := []) ⟨hx, hb, hml, hown, hts⟩ (c_X5_isDish l dC dI cI cZ H.size p_draft p_imageOne p_imageZero p_now p_now_lendings p_now_log p_now_mounts p_now_mounts_cells p_now_undos p_placesOf p_reader p_slots p_text p_this p_told d_keptImages d_traced d_now_mounts_most d_now_mounts_many x1 (f_X5_isDish d_now_mounts_many x1) rfl) (cwV 1 hts gX5_looks_X5_isDish rfl rfl rfl (by decide +kernel) ⟨Nat.le_of_ble_eq_true rfl, Nat.le_of_ble_eq_true rfl⟩) ⟨fun a U g mk q => ⟨q.1, PC.mv q.2⟩, va_recv hK hP (ci := 5) (q0 := 0) rfl rfl, fun U hU hW => ⟨rfl, PC.of hU hW hPc hK hDc hN⟩⟩ rfl rfl hl.1 rfl (lv_room (Nat.le_of_ble_eq_true rfl)) dX5_looks_2 ⟨Nat.zero_le _, Nat.zero_le _⟩) hS (fun q _ h => hFc q h) hFc (fun r_2 u t H1 locs ht hvm hw hB hz1 hk1 hS => ?_)
  obtain ⟨hP1, hD1⟩ := hB
  try dsimp only at hw
  rw [hw]
  rw [ht] at hP1
  have hP : va_P (dC, dI) vwCl [(p_this, .inr (5, [.ref p_text, .ref p_reader, .ref p_told, .ref p_draft, .ref p_now, .ref p_imageZero, .ref p_imageOne, .ref p_slots, .ref p_placesOf, .int d_keptImages, .long d_traced])), (p_now, .inr (0, [.ref p_now_mounts, .ref p_now_lendings, .ref p_now_log, .ref p_now_undos])), (p_now_mounts, .inr (2, [.int d_now_mounts_most, .ref p_now_mounts_cells, .int d_now_mounts_many])), (p_now_mounts_cells, .inl (cI, 48, .inl d_now_mounts_cells))] H1 := join_ro hP hD [0, 1, 2] rfl hk1 hP1
  clear hPc hDc hFc hk1 hz1 hP1 hD1 ht hvm
  generalize H1 = H at hP hS ⊢
  refine lv_if_eq (tgt := 27) hx hb dX5_looks_5 (by decide) (fun c_5 => ?_) (fun c_5 => ?_)
  · rw [if_pos c_5] at hrun
    refine lv_iconst (v := (-1)) hx hb dX5_looks_27 (by decide) ?_
    have hrun := hrun
    subst hrun
    rw [hQ]
    exact W.iret (v := (-1)) hx hb hr (fun t ht hW => ⟨⟨(-1), (), rfl, rfl, by rw [ht]; exact hP, hD⟩, hS.F ht⟩) hS.2.2 dX5_looks_28
  · rw [if_neg c_5] at hrun
    refine lv_iload_n hx hb dX5_looks_8 rfl (lv_at hl 2 rfl) ?_
    have hPc : va_P (dC, dI) vwCl [] H := hP.sub [] rfl
    have hDc : va_D A [] := hD.sub [] (by decide) rfl
    have hFc := va_free (wc := []) hD hS hA [] rfl
    refine va_calli (va_runS (As := [.int x2]) (rest := []) ⟨hx, hb, hml, hown, hts⟩ (c_X5_isHour l dC dI cI cZ H.size x2 (f_X5_isHour x2) rfl) (va_cwS 1 hts gX5_looks_X5_isHour rfl rfl rfl (by decide +kernel) ⟨Nat.le_of_ble_eq_true rfl, Nat.le_of_ble_eq_true rfl⟩) ⟨fun a U g mk q => ⟨q.1, PC.mv q.2⟩, fun U hU hW => ⟨rfl, PC.of hU hW hPc hK hDc hN⟩⟩ rfl rfl hl.1 rfl (lv_room (Nat.le_of_ble_eq_true rfl)) dX5_looks_9 ⟨Nat.zero_le _, Nat.zero_le _⟩) hS (fun q _ h => hFc q h) hFc (fun r_9 u t H1 locs ht hvm hw hB hz1 hk1 hS => ?_)
    obtain ⟨hP1, hD1⟩ := hB
    try dsimp only at hw
    rw [hw]
    rw [ht] at hP1
    have hP : va_P (dC, dI) vwCl [(p_this, .inr (5, [.ref p_text, .ref p_reader, .ref p_told, .ref p_draft, .ref p_now, .ref p_imageZero, .ref p_imageOne, .ref p_slots, .ref p_placesOf, .int d_keptImages, .long d_traced])), (p_now, .inr (0, [.ref p_now_mounts, .ref p_now_lendings, .ref p_now_log, .ref p_now_undos])), (p_now_mounts, .inr (2, [.int d_now_mounts_most, .ref p_now_mounts_cells, .int d_now_mounts_many])), (p_now_mounts_cells, .inl (cI, 48, .inl d_now_mounts_cells))] H1 := join_ro hP hD [] rfl hk1 hP1
    clear hPc hDc hFc hk1 hz1 hP1 hD1 ht hvm
    generalize H1 = H at hP hS ⊢
    refine lv_if_eq (tgt := 27) hx hb dX5_looks_12 (by decide) (fun c_12 => ?_) (fun c_12 => ?_)
    · rw [if_pos c_12] at hrun
      refine lv_iconst (v := (-1)) hx hb dX5_looks_27 (by decide) ?_
      have hrun := hrun
      subst hrun
      rw [hQ]
      exact W.iret (v := (-1)) hx hb hr (fun t ht hW => ⟨⟨(-1), (), rfl, rfl, by rw [ht]; exact hP, hD⟩, hS.F ht⟩) hS.2.2 dX5_looks_28
    · rw [if_neg c_12] at hrun
      refine lv_aload_n hx hb dX5_looks_15 rfl (lv_at hl 0 rfl) ?_
      refine va_get (D := (dC, dI)) (ci := 5) (v := .ref p_now) (C := RX5) (T := TX5) (N := 11) hx hb hts iwX5 hown hK hP 0 rfl rfl 4 (by decide) (hts (.fieldLink RX5 36 "SkyListeners" "now" "LSkyListeners$Now;") (by decide +kernel)) (fun _ h9 => h9) rfl dX5_looks_16 ?_
      refine lv_iload_n hx hb dX5_looks_19 rfl (lv_at hl 1 rfl) ?_
      refine lv_iload_n hx hb dX5_looks_20 rfl (lv_at hl 2 rfl) ?_
      have hPc : va_P (dC, dI) vwCl [(p_now, .inr (0, [.ref p_now_mounts, .ref p_now_lendings, .ref p_now_log, .ref p_now_undos])), (p_now_mounts, .inr (2, [.int d_now_mounts_most, .ref p_now_mounts_cells, .int d_now_mounts_many])), (p_now_mounts_cells, .inl (cI, 48, .inl d_now_mounts_cells))] H := hP.sub [1, 2, 3] rfl
      have hDc : va_D A [(p_now, .inr (0, [.ref p_now_mounts, .ref p_now_lendings, .ref p_now_log, .ref p_now_undos])), (p_now_mounts, .inr (2, [.int d_now_mounts_most, .ref p_now_mounts_cells, .int d_now_mounts_many])), (p_now_mounts_cells, .inl (cI, 48, .inl d_now_mounts_cells))] := hD.sub [1, 2, 3] (by decide) rfl
      have hFc := va_free (wc := [(p_now, .inr (0, [.ref p_now_mounts, .ref p_now_lendings, .ref p_now_log, .ref p_now_undos])), (p_now_mounts, .inr (2, [.int d_now_mounts_most, .ref p_now_mounts_cells, .int d_now_mounts_many])), (p_now_mounts_cells, .inl (cI, 48, .inl d_now_mounts_cells))]) hD hS hA [1, 2, 3] rfl
      refine va_calli (va_runV (As := [.int x1, .int x2]) (rest := []) ⟨hx, hb, hml, hown, hts⟩ (c_X0_placeSeen l dC dI cI cZ H.size p_now_lendings p_now_log p_now_mounts p_now_mounts_cells p_now p_now_undos d_now_mounts_most d_now_mounts_many d_now_mounts_cells x1 x2 (f_X0_placeSeen d_now_mounts_many d_now_mounts_cells x1 x2) rfl) (cwV 2 hts gX5_looks_X0_placeSeen rfl rfl rfl (by decide +kernel) ⟨Nat.le_of_ble_eq_true rfl, Nat.le_of_ble_eq_true rfl⟩) ⟨fun a U g mk q => ⟨q.1, PC.mv q.2⟩, va_recv hK hP (ci := 0) (q0 := 1) rfl rfl, fun U hU hW => ⟨rfl, PC.of hU hW hPc hK hDc hN⟩⟩ rfl rfl hl.1 rfl (lv_room (Nat.le_of_ble_eq_true rfl)) dX5_looks_21 ⟨Nat.zero_le _, Nat.zero_le _⟩) hS (fun q _ h => hFc q h) hFc (fun r_21 u t H1 locs ht hvm hw hB hz1 hk1 hS => ?_)
      obtain ⟨hP1, hD1⟩ := hB
      try dsimp only at hw
      rw [hw]
      rw [ht] at hP1
      have hP : va_P (dC, dI) vwCl [(p_this, .inr (5, [.ref p_text, .ref p_reader, .ref p_told, .ref p_draft, .ref p_now, .ref p_imageZero, .ref p_imageOne, .ref p_slots, .ref p_placesOf, .int d_keptImages, .long d_traced])), (p_now, .inr (0, [.ref p_now_mounts, .ref p_now_lendings, .ref p_now_log, .ref p_now_undos])), (p_now_mounts, .inr (2, [.int d_now_mounts_most, .ref p_now_mounts_cells, .int d_now_mounts_many])), (p_now_mounts_cells, .inl (cI, 48, .inl d_now_mounts_cells))] H1 := join_ro hP hD [1, 2, 3] rfl hk1 hP1
      clear hPc hDc hFc hk1 hz1 hP1 hD1 ht hvm
      generalize H1 = H at hP hS ⊢
      refine lv_goto (tgt := 28) hx hb dX5_looks_24 (by decide) ?_
      have hrun := hrun
      subst hrun
      rw [hQ]
      exact W.iret (v := (f_X0_placeSeen d_now_mounts_many d_now_mounts_cells x1 x2)) hx hb hr (fun t ht hW => ⟨⟨(f_X0_placeSeen d_now_mounts_many d_now_mounts_cells x1 x2), (), rfl, rfl, by rw [ht]; exact hP, hD⟩, hS.F ht⟩) hS.2.2 dX5_looks_28
-- SkyListeners.hears
def f_X5_hears (d_now_mounts_many : Int32) (d_now_mounts_cells : Nat → Int32) (d_told_noises_many : Int32) (d_told_noises_cells : Nat → Int32) (d_told_speakers_many : Int32) (d_told_speakers_cells : Nat → Int32) (x1 : Int32) (x2 : Int32) : Option (Int32) := (if (f_X5_isDish d_now_mounts_many x1) = 0 then (some (-1)) else (if (f_X5_isHour x2) = 0 then (some (-1)) else ((f_X4_notesSpoken d_told_speakers_many d_told_speakers_cells (f_X0_placeSeen d_now_mounts_many d_now_mounts_cells x1 x2) x2).bind fun q31 => ((f_X4_notesOfNoises d_told_noises_many d_told_noises_cells x2).bind fun q39 => (some (q31 ||| q39))))))
set_option maxHeartbeats 4000000 in
set_option maxRecDepth 100000 in
theorem c_X5_hears (l : Launch) (dC : Nat → ClassId) (dI : Nat → Nat → Nat) (cI cZ : ClassId) (sz : Nat) (p_draft p_imageOne p_imageZero p_now p_now_lendings p_now_log p_now_mounts p_now_mounts_cells p_now_undos p_placesOf p_reader p_slots p_text p_this p_told p_told_askers p_told_dishes p_told_noises p_told_noises_cells p_told_speakers p_told_speakers_cells : Nat) (d_keptImages : Int32) (d_traced : Int64) (d_now_mounts_most : Int32) (d_now_mounts_many : Int32) (d_now_mounts_cells : Nat → Int32) (d_told_noises_most : Int32) (d_told_noises_many : Int32) (d_told_noises_cells : Nat → Int32) (d_told_speakers_most : Int32) (d_told_speakers_many : Int32) (d_told_speakers_cells : Nat → Int32) (x1 : Int32) (x2 : Int32) (out : Int32) (hrun : f_X5_hears d_now_mounts_many d_now_mounts_cells d_told_noises_many d_told_noises_cells d_told_speakers_many d_told_speakers_cells x1 x2 = some out) : Met l yX5_hears wsX5_hears ({ frames := 3, cells := 0, slots := 0, locals := 69 } : Room) (va_Pc [.ref p_this, .int x1, .int x2] (PC dC dI cI cZ sz ([(p_this, .inr (5, [.ref p_text, .ref p_reader, .ref p_told, .ref p_draft, .ref p_now, .ref p_imageZero, .ref p_imageOne, .ref p_slots, .ref p_placesOf, .int d_keptImages, .long d_traced])), (p_now, .inr (0, [.ref p_now_mounts, .ref p_now_lendings, .ref p_now_log, .ref p_now_undos])), (p_now_mounts, .inr (2, [.int d_now_mounts_most, .ref p_now_mounts_cells, .int d_now_mounts_many])), (p_now_mounts_cells, .inl (cI, 48, .inl d_now_mounts_cells)), (p_told, .inr (4, [.ref p_told_dishes, .ref p_told_speakers, .ref p_told_noises, .ref p_told_askers])), (p_told_noises, .inr (2, [.int d_told_noises_most, .ref p_told_noises_cells, .int d_told_noises_many])), (p_told_noises_cells, .inl (cI, 48, .inl d_told_noises_cells)), (p_told_speakers, .inr (2, [.int d_told_speakers_most, .ref p_told_speakers_cells, .int d_told_speakers_many])), (p_told_speakers_cells, .inl (cI, 48, .inl d_told_speakers_cells))] : va_W))) (va_Qi (fun r (_ : Unit) => r = out) (fun _ t => va_P (dC, dI) vwCl [(p_this, .inr (5, [.ref p_text, .ref p_reader, .ref p_told, .ref p_draft, .ref p_now, .ref p_imageZero, .ref p_imageOne, .ref p_slots, .ref p_placesOf, .int d_keptImages, .long d_traced])), (p_now, .inr (0, [.ref p_now_mounts, .ref p_now_lendings, .ref p_now_log, .ref p_now_undos])), (p_now_mounts, .inr (2, [.int d_now_mounts_most, .ref p_now_mounts_cells, .int d_now_mounts_many])), (p_now_mounts_cells, .inl (cI, 48, .inl d_now_mounts_cells)), (p_told, .inr (4, [.ref p_told_dishes, .ref p_told_speakers, .ref p_told_noises, .ref p_told_askers])), (p_told_noises, .inr (2, [.int d_told_noises_most, .ref p_told_noises_cells, .int d_told_noises_many])), (p_told_noises_cells, .inl (cI, 48, .inl d_told_noises_cells)), (p_told_speakers, .inr (2, [.int d_told_speakers_most, .ref p_told_speakers_cells, .int d_told_speakers_many])), (p_told_speakers_cells, .inl (cI, 48, .inl d_told_speakers_cells))] t.heap ∧ va_D (va_A ([(p_this, .inr (5, [.ref p_text, .ref p_reader, .ref p_told, .ref p_draft, .ref p_now, .ref p_imageZero, .ref p_imageOne, .ref p_slots, .ref p_placesOf, .int d_keptImages, .long d_traced])), (p_now, .inr (0, [.ref p_now_mounts, .ref p_now_lendings, .ref p_now_log, .ref p_now_undos])), (p_now_mounts, .inr (2, [.int d_now_mounts_most, .ref p_now_mounts_cells, .int d_now_mounts_many])), (p_now_mounts_cells, .inl (cI, 48, .inl d_now_mounts_cells)), (p_told, .inr (4, [.ref p_told_dishes, .ref p_told_speakers, .ref p_told_noises, .ref p_told_askers])), (p_told_noises, .inr (2, [.int d_told_noises_most, .ref p_told_noises_cells, .int d_told_noises_many])), (p_told_noises_cells, .inl (cI, 48, .inl d_told_noises_cells)), (p_told_speakers, .inr (2, [.int d_told_speakers_most, .ref p_told_speakers_cells, .int d_told_speakers_many])), (p_told_speakers_cells, .inl (cI, 48, .inl d_told_speakers_cells))] : va_W) sz) [(p_this, .inr (5, [.ref p_text, .ref p_reader, .ref p_told, .ref p_draft, .ref p_now, .ref p_imageZero, .ref p_imageOne, .ref p_slots, .ref p_placesOf, .int d_keptImages, .long d_traced])), (p_now, .inr (0, [.ref p_now_mounts, .ref p_now_lendings, .ref p_now_log, .ref p_now_undos])), (p_now_mounts, .inr (2, [.int d_now_mounts_most, .ref p_now_mounts_cells, .int d_now_mounts_many])), (p_now_mounts_cells, .inl (cI, 48, .inl d_now_mounts_cells)), (p_told, .inr (4, [.ref p_told_dishes, .ref p_told_speakers, .ref p_told_noises, .ref p_told_askers])), (p_told_noises, .inr (2, [.int d_told_noises_most, .ref p_told_noises_cells, .int d_told_noises_many])), (p_told_noises_cells, .inl (cI, 48, .inl d_told_noises_cells)), (p_told_speakers, .inr (2, [.int d_told_speakers_most, .ref p_told_speakers_cells, .int d_told_speakers_many])), (p_told_speakers_cells, .inl (cI, 48, .inl d_told_speakers_cells))]) (va_A ([(p_this, .inr (5, [.ref p_text, .ref p_reader, .ref p_told, .ref p_draft, .ref p_now, .ref p_imageZero, .ref p_imageOne, .ref p_slots, .ref p_placesOf, .int d_keptImages, .long d_traced])), (p_now, .inr (0, [.ref p_now_mounts, .ref p_now_lendings, .ref p_now_log, .ref p_now_undos])), (p_now_mounts, .inr (2, [.int d_now_mounts_most, .ref p_now_mounts_cells, .int d_now_mounts_many])), (p_now_mounts_cells, .inl (cI, 48, .inl d_now_mounts_cells)), (p_told, .inr (4, [.ref p_told_dishes, .ref p_told_speakers, .ref p_told_noises, .ref p_told_askers])), (p_told_noises, .inr (2, [.int d_told_noises_most, .ref p_told_noises_cells, .int d_told_noises_many])), (p_told_noises_cells, .inl (cI, 48, .inl d_told_noises_cells)), (p_told_speakers, .inr (2, [.int d_told_speakers_most, .ref p_told_speakers_cells, .int d_told_speakers_many])), (p_told_speakers_cells, .inl (cI, 48, .inl d_told_speakers_cells))] : va_W) sz)) 0 0 (va_A ([(p_this, .inr (5, [.ref p_text, .ref p_reader, .ref p_told, .ref p_draft, .ref p_now, .ref p_imageZero, .ref p_imageOne, .ref p_slots, .ref p_placesOf, .int d_keptImages, .long d_traced])), (p_now, .inr (0, [.ref p_now_mounts, .ref p_now_lendings, .ref p_now_log, .ref p_now_undos])), (p_now_mounts, .inr (2, [.int d_now_mounts_most, .ref p_now_mounts_cells, .int d_now_mounts_many])), (p_now_mounts_cells, .inl (cI, 48, .inl d_now_mounts_cells)), (p_told, .inr (4, [.ref p_told_dishes, .ref p_told_speakers, .ref p_told_noises, .ref p_told_askers])), (p_told_noises, .inr (2, [.int d_told_noises_most, .ref p_told_noises_cells, .int d_told_noises_many])), (p_told_noises_cells, .inl (cI, 48, .inl d_told_noises_cells)), (p_told_speakers, .inr (2, [.int d_told_speakers_most, .ref p_told_speakers_cells, .int d_told_speakers_many])), (p_told_speakers_cells, .inl (cI, 48, .inl d_told_speakers_cells))] : va_W) sz) := by
  refine Met.ofW (cc := cX5_hears) (maxL := 3) (ret := (some .int)) (by decide) rfl ?_
  intro p e s m args below meth c s₁ B hml hv
  obtain ⟨rfl, hsz, hP, hK, hD0, hN⟩ := hv
  have hx := B.exec
  have hb := B.bytes
  have hr := B.returns
  have hts := atoms_spec (ws := wsX5_hears) B.pre
  have hown : s.vm.findClass RX5 = some m.cls := findClass_of_methodNamed B.named
  have hlocks := B.notSynchronized
  subst hsz
  have hD := hD0.self (sz := s.heap.size)
  generalize hAe : va_A ([(p_this, .inr (5, [.ref p_text, .ref p_reader, .ref p_told, .ref p_draft, .ref p_now, .ref p_imageZero, .ref p_imageOne, .ref p_slots, .ref p_placesOf, .int d_keptImages, .long d_traced])), (p_now, .inr (0, [.ref p_now_mounts, .ref p_now_lendings, .ref p_now_log, .ref p_now_undos])), (p_now_mounts, .inr (2, [.int d_now_mounts_most, .ref p_now_mounts_cells, .int d_now_mounts_many])), (p_now_mounts_cells, .inl (cI, 48, .inl d_now_mounts_cells)), (p_told, .inr (4, [.ref p_told_dishes, .ref p_told_speakers, .ref p_told_noises, .ref p_told_askers])), (p_told_noises, .inr (2, [.int d_told_noises_most, .ref p_told_noises_cells, .int d_told_noises_many])), (p_told_noises_cells, .inl (cI, 48, .inl d_told_noises_cells)), (p_told_speakers, .inr (2, [.int d_told_speakers_most, .ref p_told_speakers_cells, .int d_told_speakers_many])), (p_told_speakers_cells, .inl (cI, 48, .inl d_told_speakers_cells))] : va_W) s.heap.size = A at hD ⊢
  have hA : ∀ q : Nat, s.heap.size ≤ q → A q := fun q h => by rw [← hAe]; exact Or.inr h
  have hS : va_S A s.heap s.heap [] := va_S.rf
  refine W_abs (fun Q hQ => ?_)
  have hl := lv_entry ([.ref p_this, .int x1, .int x2]) (n := 3) (Nat.le_of_ble_eq_true rfl)
  rw [lg_entry_eq]
  generalize (lg_sl ([.ref p_this, .int x1, .int x2]) ++ List.replicate (3 - (lg_sl ([.ref p_this, .int x1, .int x2])).length) Slot.unset).toArray = ls at hl ⊢
  have hl : lv_has ls 3 [(0, .ref p_this), (1, .int x1), (2, .int x2)] := hl
  rw [f_X5_hears] at hrun
  refine W_start (ws := [(p_this, .inr (5, [.ref p_text, .ref p_reader, .ref p_told, .ref p_draft, .ref p_now, .ref p_imageZero, .ref p_imageOne, .ref p_slots, .ref p_placesOf, .int d_keptImages, .long d_traced])), (p_now, .inr (0, [.ref p_now_mounts, .ref p_now_lendings, .ref p_now_log, .ref p_now_undos])), (p_now_mounts, .inr (2, [.int d_now_mounts_most, .ref p_now_mounts_cells, .int d_now_mounts_many])), (p_now_mounts_cells, .inl (cI, 48, .inl d_now_mounts_cells)), (p_told, .inr (4, [.ref p_told_dishes, .ref p_told_speakers, .ref p_told_noises, .ref p_told_askers])), (p_told_noises, .inr (2, [.int d_told_noises_most, .ref p_told_noises_cells, .int d_told_noises_many])), (p_told_noises_cells, .inl (cI, 48, .inl d_told_noises_cells)), (p_told_speakers, .inr (2, [.int d_told_speakers_most, .ref p_told_speakers_cells, .int d_told_speakers_many])), (p_told_speakers_cells, .inl (cI, 48, .inl d_told_speakers_cells))]) hP hS (fun H locs hP hS => ?_)
  have iwX5 : ∀ w ∈ wsX50, w ∈ wsX5_hears := by decide +kernel
  refine lv_aload_n hx hb dX5_hears_0 rfl (lv_at hl 0 rfl) ?_
  refine lv_iload_n hx hb dX5_hears_1 rfl (lv_at hl 1 rfl) ?_
  have hPc : va_P (dC, dI) vwCl [(p_this, .inr (5, [.ref p_text, .ref p_reader, .ref p_told, .ref p_draft, .ref p_now, .ref p_imageZero, .ref p_imageOne, .ref p_slots, .ref p_placesOf, .int d_keptImages, .long d_traced])), (p_now, .inr (0, [.ref p_now_mounts, .ref p_now_lendings, .ref p_now_log, .ref p_now_undos])), (p_now_mounts, .inr (2, [.int d_now_mounts_most, .ref p_now_mounts_cells, .int d_now_mounts_many]))] H := hP.sub [0, 1, 2] rfl
  have hDc : va_D A [(p_this, .inr (5, [.ref p_text, .ref p_reader, .ref p_told, .ref p_draft, .ref p_now, .ref p_imageZero, .ref p_imageOne, .ref p_slots, .ref p_placesOf, .int d_keptImages, .long d_traced])), (p_now, .inr (0, [.ref p_now_mounts, .ref p_now_lendings, .ref p_now_log, .ref p_now_undos])), (p_now_mounts, .inr (2, [.int d_now_mounts_most, .ref p_now_mounts_cells, .int d_now_mounts_many]))] := hD.sub [0, 1, 2] (by decide) rfl
  have hFc := va_free (wc := [(p_this, .inr (5, [.ref p_text, .ref p_reader, .ref p_told, .ref p_draft, .ref p_now, .ref p_imageZero, .ref p_imageOne, .ref p_slots, .ref p_placesOf, .int d_keptImages, .long d_traced])), (p_now, .inr (0, [.ref p_now_mounts, .ref p_now_lendings, .ref p_now_log, .ref p_now_undos])), (p_now_mounts, .inr (2, [.int d_now_mounts_most, .ref p_now_mounts_cells, .int d_now_mounts_many]))]) hD hS hA [0, 1, 2] rfl
  refine va_calli (va_runV (As := [.int x1]) (rest := []) ⟨hx, hb, hml, hown, hts⟩ (c_X5_isDish l dC dI cI cZ H.size p_draft p_imageOne p_imageZero p_now p_now_lendings p_now_log p_now_mounts p_now_mounts_cells p_now_undos p_placesOf p_reader p_slots p_text p_this p_told d_keptImages d_traced d_now_mounts_most d_now_mounts_many x1 (f_X5_isDish d_now_mounts_many x1) rfl) (cwV 1 hts gX5_hears_X5_isDish rfl rfl rfl (by decide +kernel) ⟨Nat.le_of_ble_eq_true rfl, Nat.le_of_ble_eq_true rfl⟩) ⟨fun a U g mk q => ⟨q.1, PC.mv q.2⟩, va_recv hK hP (ci := 5) (q0 := 0) rfl rfl, fun U hU hW => ⟨rfl, PC.of hU hW hPc hK hDc hN⟩⟩ rfl rfl hl.1 rfl (lv_room (Nat.le_of_ble_eq_true rfl)) dX5_hears_2 ⟨Nat.zero_le _, Nat.zero_le _⟩) hS (fun q _ h => hFc q h) hFc (fun r_2 u t H1 locs ht hvm hw hB hz1 hk1 hS => ?_)
  obtain ⟨hP1, hD1⟩ := hB
  try dsimp only at hw
  rw [hw]
  rw [ht] at hP1
  have hP : va_P (dC, dI) vwCl [(p_this, .inr (5, [.ref p_text, .ref p_reader, .ref p_told, .ref p_draft, .ref p_now, .ref p_imageZero, .ref p_imageOne, .ref p_slots, .ref p_placesOf, .int d_keptImages, .long d_traced])), (p_now, .inr (0, [.ref p_now_mounts, .ref p_now_lendings, .ref p_now_log, .ref p_now_undos])), (p_now_mounts, .inr (2, [.int d_now_mounts_most, .ref p_now_mounts_cells, .int d_now_mounts_many])), (p_now_mounts_cells, .inl (cI, 48, .inl d_now_mounts_cells)), (p_told, .inr (4, [.ref p_told_dishes, .ref p_told_speakers, .ref p_told_noises, .ref p_told_askers])), (p_told_noises, .inr (2, [.int d_told_noises_most, .ref p_told_noises_cells, .int d_told_noises_many])), (p_told_noises_cells, .inl (cI, 48, .inl d_told_noises_cells)), (p_told_speakers, .inr (2, [.int d_told_speakers_most, .ref p_told_speakers_cells, .int d_told_speakers_many])), (p_told_speakers_cells, .inl (cI, 48, .inl d_told_speakers_cells))] H1 := join_ro hP hD [0, 1, 2] rfl hk1 hP1
  clear hPc hDc hFc hk1 hz1 hP1 hD1 ht hvm
  generalize H1 = H at hP hS ⊢
  refine lv_if_eq (tgt := 15) hx hb dX5_hears_5 (by decide) (fun c_5 => ?_) (fun c_5 => ?_)
  · rw [if_pos c_5] at hrun
    refine lv_iconst (v := (-1)) hx hb dX5_hears_15 (by decide) ?_
    have hrun := Option.some.inj hrun
    subst hrun
    rw [hQ]
    exact W.iret (v := (-1)) hx hb hr (fun t ht hW => ⟨⟨(-1), (), rfl, rfl, by rw [ht]; exact hP, hD⟩, hS.F ht⟩) hS.2.2 dX5_hears_16
  · rw [if_neg c_5] at hrun
    refine lv_iload_n hx hb dX5_hears_8 rfl (lv_at hl 2 rfl) ?_
    have hPc : va_P (dC, dI) vwCl [] H := hP.sub [] rfl
    have hDc : va_D A [] := hD.sub [] (by decide) rfl
    have hFc := va_free (wc := []) hD hS hA [] rfl
    refine va_calli (va_runS (As := [.int x2]) (rest := []) ⟨hx, hb, hml, hown, hts⟩ (c_X5_isHour l dC dI cI cZ H.size x2 (f_X5_isHour x2) rfl) (va_cwS 1 hts gX5_hears_X5_isHour rfl rfl rfl (by decide +kernel) ⟨Nat.le_of_ble_eq_true rfl, Nat.le_of_ble_eq_true rfl⟩) ⟨fun a U g mk q => ⟨q.1, PC.mv q.2⟩, fun U hU hW => ⟨rfl, PC.of hU hW hPc hK hDc hN⟩⟩ rfl rfl hl.1 rfl (lv_room (Nat.le_of_ble_eq_true rfl)) dX5_hears_9 ⟨Nat.zero_le _, Nat.zero_le _⟩) hS (fun q _ h => hFc q h) hFc (fun r_9 u t H1 locs ht hvm hw hB hz1 hk1 hS => ?_)
    obtain ⟨hP1, hD1⟩ := hB
    try dsimp only at hw
    rw [hw]
    rw [ht] at hP1
    have hP : va_P (dC, dI) vwCl [(p_this, .inr (5, [.ref p_text, .ref p_reader, .ref p_told, .ref p_draft, .ref p_now, .ref p_imageZero, .ref p_imageOne, .ref p_slots, .ref p_placesOf, .int d_keptImages, .long d_traced])), (p_now, .inr (0, [.ref p_now_mounts, .ref p_now_lendings, .ref p_now_log, .ref p_now_undos])), (p_now_mounts, .inr (2, [.int d_now_mounts_most, .ref p_now_mounts_cells, .int d_now_mounts_many])), (p_now_mounts_cells, .inl (cI, 48, .inl d_now_mounts_cells)), (p_told, .inr (4, [.ref p_told_dishes, .ref p_told_speakers, .ref p_told_noises, .ref p_told_askers])), (p_told_noises, .inr (2, [.int d_told_noises_most, .ref p_told_noises_cells, .int d_told_noises_many])), (p_told_noises_cells, .inl (cI, 48, .inl d_told_noises_cells)), (p_told_speakers, .inr (2, [.int d_told_speakers_most, .ref p_told_speakers_cells, .int d_told_speakers_many])), (p_told_speakers_cells, .inl (cI, 48, .inl d_told_speakers_cells))] H1 := join_ro hP hD [] rfl hk1 hP1
    clear hPc hDc hFc hk1 hz1 hP1 hD1 ht hvm
    generalize H1 = H at hP hS ⊢
    refine lv_if_ne (tgt := 17) hx hb dX5_hears_12 (by decide) (fun c_12 => ?_) (fun c_12 => ?_)
    · rw [if_neg c_12] at hrun
      refine lv_aload_n hx hb dX5_hears_17 rfl (lv_at hl 0 rfl) ?_
      refine va_get (D := (dC, dI)) (ci := 5) (v := .ref p_told) (C := RX5) (T := TX5) (N := 11) hx hb hts iwX5 hown hK hP 0 rfl rfl 2 (by decide) (hts (.fieldLink RX5 26 "SkyListeners" "told" "LSkyListeners$Valley;") (by decide +kernel)) (fun _ h9 => h9) rfl dX5_hears_18 ?_
      refine lv_aload_n hx hb dX5_hears_21 rfl (lv_at hl 0 rfl) ?_
      refine va_get (D := (dC, dI)) (ci := 5) (v := .ref p_now) (C := RX5) (T := TX5) (N := 11) hx hb hts iwX5 hown hK hP 0 rfl rfl 4 (by decide) (hts (.fieldLink RX5 36 "SkyListeners" "now" "LSkyListeners$Now;") (by decide +kernel)) (fun _ h9 => h9) rfl dX5_hears_22 ?_
      refine lv_iload_n hx hb dX5_hears_25 rfl (lv_at hl 1 rfl) ?_
      refine lv_iload_n hx hb dX5_hears_26 rfl (lv_at hl 2 rfl) ?_
      have hPc : va_P (dC, dI) vwCl [(p_now, .inr (0, [.ref p_now_mounts, .ref p_now_lendings, .ref p_now_log, .ref p_now_undos])), (p_now_mounts, .inr (2, [.int d_now_mounts_most, .ref p_now_mounts_cells, .int d_now_mounts_many])), (p_now_mounts_cells, .inl (cI, 48, .inl d_now_mounts_cells))] H := hP.sub [1, 2, 3] rfl
      have hDc : va_D A [(p_now, .inr (0, [.ref p_now_mounts, .ref p_now_lendings, .ref p_now_log, .ref p_now_undos])), (p_now_mounts, .inr (2, [.int d_now_mounts_most, .ref p_now_mounts_cells, .int d_now_mounts_many])), (p_now_mounts_cells, .inl (cI, 48, .inl d_now_mounts_cells))] := hD.sub [1, 2, 3] (by decide) rfl
      have hFc := va_free (wc := [(p_now, .inr (0, [.ref p_now_mounts, .ref p_now_lendings, .ref p_now_log, .ref p_now_undos])), (p_now_mounts, .inr (2, [.int d_now_mounts_most, .ref p_now_mounts_cells, .int d_now_mounts_many])), (p_now_mounts_cells, .inl (cI, 48, .inl d_now_mounts_cells))]) hD hS hA [1, 2, 3] rfl
      refine va_calli (va_runV (As := [.int x1, .int x2]) (rest := [.ref p_told]) ⟨hx, hb, hml, hown, hts⟩ (c_X0_placeSeen l dC dI cI cZ H.size p_now_lendings p_now_log p_now_mounts p_now_mounts_cells p_now p_now_undos d_now_mounts_most d_now_mounts_many d_now_mounts_cells x1 x2 (f_X0_placeSeen d_now_mounts_many d_now_mounts_cells x1 x2) rfl) (cwV 2 hts gX5_hears_X0_placeSeen rfl rfl rfl (by decide +kernel) ⟨Nat.le_of_ble_eq_true rfl, Nat.le_of_ble_eq_true rfl⟩) ⟨fun a U g mk q => ⟨q.1, PC.mv q.2⟩, va_recv hK hP (ci := 0) (q0 := 1) rfl rfl, fun U hU hW => ⟨rfl, PC.of hU hW hPc hK hDc hN⟩⟩ rfl rfl hl.1 rfl (lv_room (Nat.le_of_ble_eq_true rfl)) dX5_hears_27 ⟨Nat.zero_le _, Nat.zero_le _⟩) hS (fun q _ h => hFc q h) hFc (fun r_27 u t H1 locs ht hvm hw hB hz1 hk1 hS => ?_)
      obtain ⟨hP1, hD1⟩ := hB
      try dsimp only at hw
      rw [hw]
      rw [ht] at hP1
      have hP : va_P (dC, dI) vwCl [(p_this, .inr (5, [.ref p_text, .ref p_reader, .ref p_told, .ref p_draft, .ref p_now, .ref p_imageZero, .ref p_imageOne, .ref p_slots, .ref p_placesOf, .int d_keptImages, .long d_traced])), (p_now, .inr (0, [.ref p_now_mounts, .ref p_now_lendings, .ref p_now_log, .ref p_now_undos])), (p_now_mounts, .inr (2, [.int d_now_mounts_most, .ref p_now_mounts_cells, .int d_now_mounts_many])), (p_now_mounts_cells, .inl (cI, 48, .inl d_now_mounts_cells)), (p_told, .inr (4, [.ref p_told_dishes, .ref p_told_speakers, .ref p_told_noises, .ref p_told_askers])), (p_told_noises, .inr (2, [.int d_told_noises_most, .ref p_told_noises_cells, .int d_told_noises_many])), (p_told_noises_cells, .inl (cI, 48, .inl d_told_noises_cells)), (p_told_speakers, .inr (2, [.int d_told_speakers_most, .ref p_told_speakers_cells, .int d_told_speakers_many])), (p_told_speakers_cells, .inl (cI, 48, .inl d_told_speakers_cells))] H1 := join_ro hP hD [1, 2, 3] rfl hk1 hP1
      clear hPc hDc hFc hk1 hz1 hP1 hD1 ht hvm
      generalize H1 = H at hP hS ⊢
      refine lv_iload_n hx hb dX5_hears_30 rfl (lv_at hl 2 rfl) ?_
      obtain ⟨q31, hq31, hrun⟩ := bind_out hrun
      have hPc : va_P (dC, dI) vwCl [(p_told, .inr (4, [.ref p_told_dishes, .ref p_told_speakers, .ref p_told_noises, .ref p_told_askers])), (p_told_speakers, .inr (2, [.int d_told_speakers_most, .ref p_told_speakers_cells, .int d_told_speakers_many])), (p_told_speakers_cells, .inl (cI, 48, .inl d_told_speakers_cells))] H := hP.sub [4, 7, 8] rfl
      have hDc : va_D A [(p_told, .inr (4, [.ref p_told_dishes, .ref p_told_speakers, .ref p_told_noises, .ref p_told_askers])), (p_told_speakers, .inr (2, [.int d_told_speakers_most, .ref p_told_speakers_cells, .int d_told_speakers_many])), (p_told_speakers_cells, .inl (cI, 48, .inl d_told_speakers_cells))] := hD.sub [4, 7, 8] (by decide) rfl
      have hFc := va_free (wc := [(p_told, .inr (4, [.ref p_told_dishes, .ref p_told_speakers, .ref p_told_noises, .ref p_told_askers])), (p_told_speakers, .inr (2, [.int d_told_speakers_most, .ref p_told_speakers_cells, .int d_told_speakers_many])), (p_told_speakers_cells, .inl (cI, 48, .inl d_told_speakers_cells))]) hD hS hA [4, 7, 8] rfl
      refine va_calli (va_runV (As := [.int (f_X0_placeSeen d_now_mounts_many d_now_mounts_cells x1 x2), .int x2]) (rest := []) ⟨hx, hb, hml, hown, hts⟩ (c_X4_notesSpoken l dC dI cI cZ H.size p_told_askers p_told_dishes p_told_noises p_told_speakers p_told_speakers_cells p_told d_told_speakers_most d_told_speakers_many d_told_speakers_cells (f_X0_placeSeen d_now_mounts_many d_now_mounts_cells x1 x2) x2 q31 hq31) (cwV 2 hts gX5_hears_X4_notesSpoken rfl rfl rfl (by decide +kernel) ⟨Nat.le_of_ble_eq_true rfl, Nat.le_of_ble_eq_true rfl⟩) ⟨fun a U g mk q => ⟨q.1, PC.mv q.2⟩, va_recv hK hP (ci := 4) (q0 := 4) rfl rfl, fun U hU hW => ⟨rfl, PC.of hU hW hPc hK hDc hN⟩⟩ rfl rfl hl.1 rfl (lv_room (Nat.le_of_ble_eq_true rfl)) dX5_hears_31 ⟨Nat.zero_le _, Nat.zero_le _⟩) hS (fun q _ h => hFc q h) hFc (fun r_31 u t H1 locs ht hvm hw hB hz1 hk1 hS => ?_)
      obtain ⟨hP1, hD1⟩ := hB
      try dsimp only at hw
      rw [hw]
      rw [ht] at hP1
      have hP : va_P (dC, dI) vwCl [(p_this, .inr (5, [.ref p_text, .ref p_reader, .ref p_told, .ref p_draft, .ref p_now, .ref p_imageZero, .ref p_imageOne, .ref p_slots, .ref p_placesOf, .int d_keptImages, .long d_traced])), (p_now, .inr (0, [.ref p_now_mounts, .ref p_now_lendings, .ref p_now_log, .ref p_now_undos])), (p_now_mounts, .inr (2, [.int d_now_mounts_most, .ref p_now_mounts_cells, .int d_now_mounts_many])), (p_now_mounts_cells, .inl (cI, 48, .inl d_now_mounts_cells)), (p_told, .inr (4, [.ref p_told_dishes, .ref p_told_speakers, .ref p_told_noises, .ref p_told_askers])), (p_told_noises, .inr (2, [.int d_told_noises_most, .ref p_told_noises_cells, .int d_told_noises_many])), (p_told_noises_cells, .inl (cI, 48, .inl d_told_noises_cells)), (p_told_speakers, .inr (2, [.int d_told_speakers_most, .ref p_told_speakers_cells, .int d_told_speakers_many])), (p_told_speakers_cells, .inl (cI, 48, .inl d_told_speakers_cells))] H1 := join_ro hP hD [4, 7, 8] rfl hk1 hP1
      clear hPc hDc hFc hk1 hz1 hP1 hD1 ht hvm
      generalize H1 = H at hP hS ⊢
      refine lv_aload_n hx hb dX5_hears_34 rfl (lv_at hl 0 rfl) ?_
      refine va_get (D := (dC, dI)) (ci := 5) (v := .ref p_told) (C := RX5) (T := TX5) (N := 11) hx hb hts iwX5 hown hK hP 0 rfl rfl 2 (by decide) (hts (.fieldLink RX5 26 "SkyListeners" "told" "LSkyListeners$Valley;") (by decide +kernel)) (fun _ h9 => h9) rfl dX5_hears_35 ?_
      refine lv_iload_n hx hb dX5_hears_38 rfl (lv_at hl 2 rfl) ?_
      obtain ⟨q39, hq39, hrun⟩ := bind_out hrun
      have hPc : va_P (dC, dI) vwCl [(p_told, .inr (4, [.ref p_told_dishes, .ref p_told_speakers, .ref p_told_noises, .ref p_told_askers])), (p_told_noises, .inr (2, [.int d_told_noises_most, .ref p_told_noises_cells, .int d_told_noises_many])), (p_told_noises_cells, .inl (cI, 48, .inl d_told_noises_cells))] H := hP.sub [4, 5, 6] rfl
      have hDc : va_D A [(p_told, .inr (4, [.ref p_told_dishes, .ref p_told_speakers, .ref p_told_noises, .ref p_told_askers])), (p_told_noises, .inr (2, [.int d_told_noises_most, .ref p_told_noises_cells, .int d_told_noises_many])), (p_told_noises_cells, .inl (cI, 48, .inl d_told_noises_cells))] := hD.sub [4, 5, 6] (by decide) rfl
      have hFc := va_free (wc := [(p_told, .inr (4, [.ref p_told_dishes, .ref p_told_speakers, .ref p_told_noises, .ref p_told_askers])), (p_told_noises, .inr (2, [.int d_told_noises_most, .ref p_told_noises_cells, .int d_told_noises_many])), (p_told_noises_cells, .inl (cI, 48, .inl d_told_noises_cells))]) hD hS hA [4, 5, 6] rfl
      refine va_calli (va_runV (As := [.int x2]) (rest := [.int q31]) ⟨hx, hb, hml, hown, hts⟩ (c_X4_notesOfNoises l dC dI cI cZ H.size p_told_askers p_told_dishes p_told_noises p_told_noises_cells p_told_speakers p_told d_told_noises_most d_told_noises_many d_told_noises_cells x2 q39 hq39) (cwV 1 hts gX5_hears_X4_notesOfNoises rfl rfl rfl (by decide +kernel) ⟨Nat.le_of_ble_eq_true rfl, Nat.le_of_ble_eq_true rfl⟩) ⟨fun a U g mk q => ⟨q.1, PC.mv q.2⟩, va_recv hK hP (ci := 4) (q0 := 4) rfl rfl, fun U hU hW => ⟨rfl, PC.of hU hW hPc hK hDc hN⟩⟩ rfl rfl hl.1 rfl (lv_room (Nat.le_of_ble_eq_true rfl)) dX5_hears_39 ⟨Nat.zero_le _, Nat.zero_le _⟩) hS (fun q _ h => hFc q h) hFc (fun r_39 u t H1 locs ht hvm hw hB hz1 hk1 hS => ?_)
      obtain ⟨hP1, hD1⟩ := hB
      try dsimp only at hw
      rw [hw]
      rw [ht] at hP1
      have hP : va_P (dC, dI) vwCl [(p_this, .inr (5, [.ref p_text, .ref p_reader, .ref p_told, .ref p_draft, .ref p_now, .ref p_imageZero, .ref p_imageOne, .ref p_slots, .ref p_placesOf, .int d_keptImages, .long d_traced])), (p_now, .inr (0, [.ref p_now_mounts, .ref p_now_lendings, .ref p_now_log, .ref p_now_undos])), (p_now_mounts, .inr (2, [.int d_now_mounts_most, .ref p_now_mounts_cells, .int d_now_mounts_many])), (p_now_mounts_cells, .inl (cI, 48, .inl d_now_mounts_cells)), (p_told, .inr (4, [.ref p_told_dishes, .ref p_told_speakers, .ref p_told_noises, .ref p_told_askers])), (p_told_noises, .inr (2, [.int d_told_noises_most, .ref p_told_noises_cells, .int d_told_noises_many])), (p_told_noises_cells, .inl (cI, 48, .inl d_told_noises_cells)), (p_told_speakers, .inr (2, [.int d_told_speakers_most, .ref p_told_speakers_cells, .int d_told_speakers_many])), (p_told_speakers_cells, .inl (cI, 48, .inl d_told_speakers_cells))] H1 := join_ro hP hD [4, 5, 6] rfl hk1 hP1
      clear hPc hDc hFc hk1 hz1 hP1 hD1 ht hvm
      generalize H1 = H at hP hS ⊢
      refine lv_ior hx hb dX5_hears_42 ?_
      have hrun := Option.some.inj hrun
      subst hrun
      rw [hQ]
      exact W.iret (v := q31 ||| q39) hx hb hr (fun t ht hW => ⟨⟨q31 ||| q39, (), rfl, rfl, by rw [ht]; exact hP, hD⟩, hS.F ht⟩) hS.2.2 dX5_hears_43
    · rw [if_pos c_12] at hrun
      refine lv_iconst (v := (-1)) hx hb dX5_hears_15 (by decide) ?_
      have hrun := Option.some.inj hrun
      subst hrun
      rw [hQ]
      exact W.iret (v := (-1)) hx hb hr (fun t ht hW => ⟨⟨(-1), (), rfl, rfl, by rw [ht]; exact hP, hD⟩, hS.F ht⟩) hS.2.2 dX5_hears_16
-- SkyListeners.isAsker
def f_X5_isAsker (d_told_askers_many : Int32) (x1 : Int32) : Int32 := (if x1 < 0 then (0) else (if d_told_askers_many ≤ x1 then (0) else (1)))
theorem b_X5_isAsker (d_told_askers_many : Int32) (x1 : Int32) : f_X5_isAsker d_told_askers_many x1 = 0 ∨ f_X5_isAsker d_told_askers_many x1 = 1 := by unfold f_X5_isAsker; first | (repeat' split) <;> first | exact Or.inl rfl | exact Or.inr rfl
set_option maxHeartbeats 4000000 in
set_option maxRecDepth 100000 in
theorem c_X5_isAsker (l : Launch) (dC : Nat → ClassId) (dI : Nat → Nat → Nat) (cI cZ : ClassId) (sz : Nat) (p_draft p_imageOne p_imageZero p_now p_placesOf p_reader p_slots p_text p_this p_told p_told_askers p_told_askers_cells p_told_dishes p_told_noises p_told_speakers : Nat) (d_keptImages : Int32) (d_traced : Int64) (d_told_askers_most : Int32) (d_told_askers_many : Int32) (x1 : Int32) (out : Int32) (hrun : f_X5_isAsker d_told_askers_many x1 = out) : Met l yX5_isAsker wsX5_isAsker ({ frames := 0, cells := 0, slots := 0, locals := 0 } : Room) (va_Pc [.ref p_this, .int x1] (PC dC dI cI cZ sz ([(p_this, .inr (5, [.ref p_text, .ref p_reader, .ref p_told, .ref p_draft, .ref p_now, .ref p_imageZero, .ref p_imageOne, .ref p_slots, .ref p_placesOf, .int d_keptImages, .long d_traced])), (p_told, .inr (4, [.ref p_told_dishes, .ref p_told_speakers, .ref p_told_noises, .ref p_told_askers])), (p_told_askers, .inr (2, [.int d_told_askers_most, .ref p_told_askers_cells, .int d_told_askers_many]))] : va_W))) (va_Qi (fun r (_ : Unit) => r = out) (fun _ t => va_P (dC, dI) vwCl [(p_this, .inr (5, [.ref p_text, .ref p_reader, .ref p_told, .ref p_draft, .ref p_now, .ref p_imageZero, .ref p_imageOne, .ref p_slots, .ref p_placesOf, .int d_keptImages, .long d_traced])), (p_told, .inr (4, [.ref p_told_dishes, .ref p_told_speakers, .ref p_told_noises, .ref p_told_askers])), (p_told_askers, .inr (2, [.int d_told_askers_most, .ref p_told_askers_cells, .int d_told_askers_many]))] t.heap ∧ va_D (va_A ([(p_this, .inr (5, [.ref p_text, .ref p_reader, .ref p_told, .ref p_draft, .ref p_now, .ref p_imageZero, .ref p_imageOne, .ref p_slots, .ref p_placesOf, .int d_keptImages, .long d_traced])), (p_told, .inr (4, [.ref p_told_dishes, .ref p_told_speakers, .ref p_told_noises, .ref p_told_askers])), (p_told_askers, .inr (2, [.int d_told_askers_most, .ref p_told_askers_cells, .int d_told_askers_many]))] : va_W) sz) [(p_this, .inr (5, [.ref p_text, .ref p_reader, .ref p_told, .ref p_draft, .ref p_now, .ref p_imageZero, .ref p_imageOne, .ref p_slots, .ref p_placesOf, .int d_keptImages, .long d_traced])), (p_told, .inr (4, [.ref p_told_dishes, .ref p_told_speakers, .ref p_told_noises, .ref p_told_askers])), (p_told_askers, .inr (2, [.int d_told_askers_most, .ref p_told_askers_cells, .int d_told_askers_many]))]) (va_A ([(p_this, .inr (5, [.ref p_text, .ref p_reader, .ref p_told, .ref p_draft, .ref p_now, .ref p_imageZero, .ref p_imageOne, .ref p_slots, .ref p_placesOf, .int d_keptImages, .long d_traced])), (p_told, .inr (4, [.ref p_told_dishes, .ref p_told_speakers, .ref p_told_noises, .ref p_told_askers])), (p_told_askers, .inr (2, [.int d_told_askers_most, .ref p_told_askers_cells, .int d_told_askers_many]))] : va_W) sz)) 0 0 (va_A ([(p_this, .inr (5, [.ref p_text, .ref p_reader, .ref p_told, .ref p_draft, .ref p_now, .ref p_imageZero, .ref p_imageOne, .ref p_slots, .ref p_placesOf, .int d_keptImages, .long d_traced])), (p_told, .inr (4, [.ref p_told_dishes, .ref p_told_speakers, .ref p_told_noises, .ref p_told_askers])), (p_told_askers, .inr (2, [.int d_told_askers_most, .ref p_told_askers_cells, .int d_told_askers_many]))] : va_W) sz) := by
  refine Met.ofW (cc := cX5_isAsker) (maxL := 2) (ret := (some .boolean)) (by decide) rfl ?_
  intro p e s m args below meth c s₁ B hml hv
  obtain ⟨rfl, hsz, hP, hK, hD0, hN⟩ := hv
  have hx := B.exec
  have hb := B.bytes
  have hr := B.returns
  have hts := atoms_spec (ws := wsX5_isAsker) B.pre
  have hown : s.vm.findClass RX5 = some m.cls := findClass_of_methodNamed B.named
  have hlocks := B.notSynchronized
  subst hsz
  have hD := hD0.self (sz := s.heap.size)
  generalize hAe : va_A ([(p_this, .inr (5, [.ref p_text, .ref p_reader, .ref p_told, .ref p_draft, .ref p_now, .ref p_imageZero, .ref p_imageOne, .ref p_slots, .ref p_placesOf, .int d_keptImages, .long d_traced])), (p_told, .inr (4, [.ref p_told_dishes, .ref p_told_speakers, .ref p_told_noises, .ref p_told_askers])), (p_told_askers, .inr (2, [.int d_told_askers_most, .ref p_told_askers_cells, .int d_told_askers_many]))] : va_W) s.heap.size = A at hD ⊢
  have hA : ∀ q : Nat, s.heap.size ≤ q → A q := fun q h => by rw [← hAe]; exact Or.inr h
  have hS : va_S A s.heap s.heap [] := va_S.rf
  refine W_abs (fun Q hQ => ?_)
  have hl := lv_entry ([.ref p_this, .int x1]) (n := 2) (Nat.le_of_ble_eq_true rfl)
  rw [lg_entry_eq]
  generalize (lg_sl ([.ref p_this, .int x1]) ++ List.replicate (2 - (lg_sl ([.ref p_this, .int x1])).length) Slot.unset).toArray = ls at hl ⊢
  have hl : lv_has ls 2 [(0, .ref p_this), (1, .int x1)] := hl
  rw [f_X5_isAsker] at hrun
  refine W_start (ws := [(p_this, .inr (5, [.ref p_text, .ref p_reader, .ref p_told, .ref p_draft, .ref p_now, .ref p_imageZero, .ref p_imageOne, .ref p_slots, .ref p_placesOf, .int d_keptImages, .long d_traced])), (p_told, .inr (4, [.ref p_told_dishes, .ref p_told_speakers, .ref p_told_noises, .ref p_told_askers])), (p_told_askers, .inr (2, [.int d_told_askers_most, .ref p_told_askers_cells, .int d_told_askers_many]))]) hP hS (fun H locs hP hS => ?_)
  have iwX2 : ∀ w ∈ wsX20, w ∈ wsX5_isAsker := by decide +kernel
  have iwX4 : ∀ w ∈ wsX40, w ∈ wsX5_isAsker := by decide +kernel
  have iwX5 : ∀ w ∈ wsX50, w ∈ wsX5_isAsker := by decide +kernel
  refine lv_iload_n hx hb dX5_isAsker_0 rfl (lv_at hl 1 rfl) ?_
  refine lv_if_lt (tgt := 22) hx hb dX5_isAsker_1 (by decide) (fun c_1 => ?_) (fun c_1 => ?_)
  · rw [if_pos c_1] at hrun
    refine lv_iconst (v := 0) hx hb dX5_isAsker_22 (by decide) ?_
    have hrun := hrun
    subst hrun
    rw [hQ]
    exact W.zret (v := 0) (ty := .boolean) hx hb hr rfl (fun t ht hW => ⟨⟨0, (), rfl, rfl, by rw [ht]; exact hP, hD⟩, hS.F ht⟩) hS.2.2 dX5_isAsker_23
  · rw [if_neg c_1] at hrun
    refine lv_iload_n hx hb dX5_isAsker_4 rfl (lv_at hl 1 rfl) ?_
    refine lv_aload_n hx hb dX5_isAsker_5 rfl (lv_at hl 0 rfl) ?_
    refine va_get (D := (dC, dI)) (ci := 5) (v := .ref p_told) (C := RX5) (T := TX5) (N := 11) hx hb hts iwX5 hown hK hP 0 rfl rfl 2 (by decide) (hts (.fieldLink RX5 26 "SkyListeners" "told" "LSkyListeners$Valley;") (by decide +kernel)) (fun _ h9 => h9) rfl dX5_isAsker_6 ?_
    refine va_get (D := (dC, dI)) (ci := 4) (v := .ref p_told_askers) (C := RX4) (T := TX4) (N := 4) hx hb hts iwX4 hown hK hP 1 rfl rfl 3 (by decide) (hts (.fieldLink RX5 106 "SkyListeners$Valley" "askers" "LSkyListeners$Rows;") (by decide +kernel)) (fun _ h9 => h9) rfl dX5_isAsker_9 ?_
    refine va_get (D := (dC, dI)) (ci := 2) (v := .int d_told_askers_many) (C := RX2) (T := TX2) (N := 3) hx hb hts iwX2 hown hK hP 2 rfl rfl 2 (by decide) (hts (.fieldLink RX5 136 "SkyListeners$Rows" "many" "I") (by decide +kernel)) (fun _ h9 => h9) rfl dX5_isAsker_12 ?_
    refine lv_icmp_ge (tgt := 22) hx hb dX5_isAsker_15 (by decide) (fun c_15 => ?_) (fun c_15 => ?_)
    · rw [if_pos c_15] at hrun
      refine lv_iconst (v := 0) hx hb dX5_isAsker_22 (by decide) ?_
      have hrun := hrun
      subst hrun
      rw [hQ]
      exact W.zret (v := 0) (ty := .boolean) hx hb hr rfl (fun t ht hW => ⟨⟨0, (), rfl, rfl, by rw [ht]; exact hP, hD⟩, hS.F ht⟩) hS.2.2 dX5_isAsker_23
    · rw [if_neg c_15] at hrun
      refine lv_iconst (v := 1) hx hb dX5_isAsker_18 (by decide) ?_
      refine lv_goto (tgt := 23) hx hb dX5_isAsker_19 (by decide) ?_
      have hrun := hrun
      subst hrun
      rw [hQ]
      exact W.zret (v := 1) (ty := .boolean) hx hb hr rfl (fun t ht hW => ⟨⟨1, (), rfl, rfl, by rw [ht]; exact hP, hD⟩, hS.F ht⟩) hS.2.2 dX5_isAsker_23
-- SkyListeners.isBit
def f_X5_isBit (x0 : Int32) : Int32 := (if x0 = 0 then (1) else (if x0 = 1 then (1) else (0)))
theorem b_X5_isBit (x0 : Int32) : f_X5_isBit x0 = 0 ∨ f_X5_isBit x0 = 1 := by unfold f_X5_isBit; first | (repeat' split) <;> first | exact Or.inl rfl | exact Or.inr rfl
set_option maxHeartbeats 4000000 in
set_option maxRecDepth 100000 in
theorem c_X5_isBit (l : Launch) (dC : Nat → ClassId) (dI : Nat → Nat → Nat) (cI cZ : ClassId) (sz : Nat) (x0 : Int32) (out : Int32) (hrun : f_X5_isBit x0 = out) : Met l yX5_isBit wsX5_isBit ({ frames := 0, cells := 0, slots := 0, locals := 0 } : Room) (va_Pc [.int x0] (PC dC dI cI cZ sz ([] : va_W))) (va_Qi (fun r (_ : Unit) => r = out) (fun _ t => va_P (dC, dI) vwCl [] t.heap ∧ va_D (va_A ([] : va_W) sz) []) (va_A ([] : va_W) sz)) 0 0 (va_A ([] : va_W) sz) := by
  refine Met.ofW (cc := cX5_isBit) (maxL := 1) (ret := (some .boolean)) (by decide) rfl ?_
  intro p e s m args below meth c s₁ B hml hv
  obtain ⟨rfl, hsz, hP, hK, hD0, hN⟩ := hv
  have hx := B.exec
  have hb := B.bytes
  have hr := B.returns
  have hts := atoms_spec (ws := wsX5_isBit) B.pre
  have hown : s.vm.findClass RX5 = some m.cls := findClass_of_methodNamed B.named
  have hlocks := B.notSynchronized
  subst hsz
  have hD := hD0.self (sz := s.heap.size)
  generalize hAe : va_A ([] : va_W) s.heap.size = A at hD ⊢
  have hA : ∀ q : Nat, s.heap.size ≤ q → A q := fun q h => by rw [← hAe]; exact Or.inr h
  have hS : va_S A s.heap s.heap [] := va_S.rf
  refine W_abs (fun Q hQ => ?_)
  have hl := lv_entry ([.int x0]) (n := 1) (Nat.le_of_ble_eq_true rfl)
  rw [lg_entry_eq]
  generalize (lg_sl ([.int x0]) ++ List.replicate (1 - (lg_sl ([.int x0])).length) Slot.unset).toArray = ls at hl ⊢
  have hl : lv_has ls 1 [(0, .int x0)] := hl
  rw [f_X5_isBit] at hrun
  refine W_start (ws := []) hP hS (fun H locs hP hS => ?_)
  refine lv_iload_n hx hb dX5_isBit_0 rfl (lv_at hl 0 rfl) ?_
  refine lv_if_eq (tgt := 9) hx hb dX5_isBit_1 (by decide) (fun c_1 => ?_) (fun c_1 => ?_)
  · rw [if_pos c_1] at hrun
    refine lv_iconst (v := 1) hx hb dX5_isBit_9 (by decide) ?_
    refine lv_goto (tgt := 14) hx hb dX5_isBit_10 (by decide) ?_
    have hrun := hrun
    subst hrun
    rw [hQ]
    exact W.zret (v := 1) (ty := .boolean) hx hb hr rfl (fun t ht hW => ⟨⟨1, (), rfl, rfl, by rw [ht]; exact hP, hD⟩, hS.F ht⟩) hS.2.2 dX5_isBit_14
  · rw [if_neg c_1] at hrun
    refine lv_iload_n hx hb dX5_isBit_4 rfl (lv_at hl 0 rfl) ?_
    refine lv_iconst (v := 1) hx hb dX5_isBit_5 (by decide) ?_
    refine lv_icmp_ne (tgt := 13) hx hb dX5_isBit_6 (by decide) (fun c_6 => ?_) (fun c_6 => ?_)
    · rw [if_neg c_6] at hrun
      refine lv_iconst (v := 0) hx hb dX5_isBit_13 (by decide) ?_
      have hrun := hrun
      subst hrun
      rw [hQ]
      exact W.zret (v := 0) (ty := .boolean) hx hb hr rfl (fun t ht hW => ⟨⟨0, (), rfl, rfl, by rw [ht]; exact hP, hD⟩, hS.F ht⟩) hS.2.2 dX5_isBit_14
    · rw [if_pos c_6] at hrun
      refine lv_iconst (v := 1) hx hb dX5_isBit_9 (by decide) ?_
      refine lv_goto (tgt := 14) hx hb dX5_isBit_10 (by decide) ?_
      have hrun := hrun
      subst hrun
      rw [hQ]
      exact W.zret (v := 1) (ty := .boolean) hx hb hr rfl (fun t ht hW => ⟨⟨1, (), rfl, rfl, by rw [ht]; exact hP, hD⟩, hS.F ht⟩) hS.2.2 dX5_isBit_14
-- SkyListeners.asker
def f_X5_asker (d_told_askers_many : Int32) (d_told_askers_cells : Nat → Int32) (x1 : Int32) (x2 : Int32) : Int32 := (if (f_X5_isAsker d_told_askers_many x1) = 0 then ((-1)) else (if (f_X5_isBit x2) = 0 then ((-1)) else ((f_X2_number d_told_askers_many d_told_askers_cells x1 x2))))
set_option maxHeartbeats 4000000 in
set_option maxRecDepth 100000 in
theorem c_X5_asker (l : Launch) (dC : Nat → ClassId) (dI : Nat → Nat → Nat) (cI cZ : ClassId) (sz : Nat) (p_draft p_imageOne p_imageZero p_now p_placesOf p_reader p_slots p_text p_this p_told p_told_askers p_told_askers_cells p_told_dishes p_told_noises p_told_speakers : Nat) (d_keptImages : Int32) (d_traced : Int64) (d_told_askers_most : Int32) (d_told_askers_many : Int32) (d_told_askers_cells : Nat → Int32) (x1 : Int32) (x2 : Int32) (out : Int32) (hrun : f_X5_asker d_told_askers_many d_told_askers_cells x1 x2 = out) : Met l yX5_asker wsX5_asker ({ frames := 2, cells := 0, slots := 0, locals := 44 } : Room) (va_Pc [.ref p_this, .int x1, .int x2] (PC dC dI cI cZ sz ([(p_this, .inr (5, [.ref p_text, .ref p_reader, .ref p_told, .ref p_draft, .ref p_now, .ref p_imageZero, .ref p_imageOne, .ref p_slots, .ref p_placesOf, .int d_keptImages, .long d_traced])), (p_told, .inr (4, [.ref p_told_dishes, .ref p_told_speakers, .ref p_told_noises, .ref p_told_askers])), (p_told_askers, .inr (2, [.int d_told_askers_most, .ref p_told_askers_cells, .int d_told_askers_many])), (p_told_askers_cells, .inl (cI, 48, .inl d_told_askers_cells))] : va_W))) (va_Qi (fun r (_ : Unit) => r = out) (fun _ t => va_P (dC, dI) vwCl [(p_this, .inr (5, [.ref p_text, .ref p_reader, .ref p_told, .ref p_draft, .ref p_now, .ref p_imageZero, .ref p_imageOne, .ref p_slots, .ref p_placesOf, .int d_keptImages, .long d_traced])), (p_told, .inr (4, [.ref p_told_dishes, .ref p_told_speakers, .ref p_told_noises, .ref p_told_askers])), (p_told_askers, .inr (2, [.int d_told_askers_most, .ref p_told_askers_cells, .int d_told_askers_many])), (p_told_askers_cells, .inl (cI, 48, .inl d_told_askers_cells))] t.heap ∧ va_D (va_A ([(p_this, .inr (5, [.ref p_text, .ref p_reader, .ref p_told, .ref p_draft, .ref p_now, .ref p_imageZero, .ref p_imageOne, .ref p_slots, .ref p_placesOf, .int d_keptImages, .long d_traced])), (p_told, .inr (4, [.ref p_told_dishes, .ref p_told_speakers, .ref p_told_noises, .ref p_told_askers])), (p_told_askers, .inr (2, [.int d_told_askers_most, .ref p_told_askers_cells, .int d_told_askers_many])), (p_told_askers_cells, .inl (cI, 48, .inl d_told_askers_cells))] : va_W) sz) [(p_this, .inr (5, [.ref p_text, .ref p_reader, .ref p_told, .ref p_draft, .ref p_now, .ref p_imageZero, .ref p_imageOne, .ref p_slots, .ref p_placesOf, .int d_keptImages, .long d_traced])), (p_told, .inr (4, [.ref p_told_dishes, .ref p_told_speakers, .ref p_told_noises, .ref p_told_askers])), (p_told_askers, .inr (2, [.int d_told_askers_most, .ref p_told_askers_cells, .int d_told_askers_many])), (p_told_askers_cells, .inl (cI, 48, .inl d_told_askers_cells))]) (va_A ([(p_this, .inr (5, [.ref p_text, .ref p_reader, .ref p_told, .ref p_draft, .ref p_now, .ref p_imageZero, .ref p_imageOne, .ref p_slots, .ref p_placesOf, .int d_keptImages, .long d_traced])), (p_told, .inr (4, [.ref p_told_dishes, .ref p_told_speakers, .ref p_told_noises, .ref p_told_askers])), (p_told_askers, .inr (2, [.int d_told_askers_most, .ref p_told_askers_cells, .int d_told_askers_many])), (p_told_askers_cells, .inl (cI, 48, .inl d_told_askers_cells))] : va_W) sz)) 0 0 (va_A ([(p_this, .inr (5, [.ref p_text, .ref p_reader, .ref p_told, .ref p_draft, .ref p_now, .ref p_imageZero, .ref p_imageOne, .ref p_slots, .ref p_placesOf, .int d_keptImages, .long d_traced])), (p_told, .inr (4, [.ref p_told_dishes, .ref p_told_speakers, .ref p_told_noises, .ref p_told_askers])), (p_told_askers, .inr (2, [.int d_told_askers_most, .ref p_told_askers_cells, .int d_told_askers_many])), (p_told_askers_cells, .inl (cI, 48, .inl d_told_askers_cells))] : va_W) sz) := by
  refine Met.ofW (cc := cX5_asker) (maxL := 3) (ret := (some .int)) (by decide) rfl ?_
  intro p e s m args below meth c s₁ B hml hv
  obtain ⟨rfl, hsz, hP, hK, hD0, hN⟩ := hv
  have hx := B.exec
  have hb := B.bytes
  have hr := B.returns
  have hts := atoms_spec (ws := wsX5_asker) B.pre
  have hown : s.vm.findClass RX5 = some m.cls := findClass_of_methodNamed B.named
  have hlocks := B.notSynchronized
  subst hsz
  have hD := hD0.self (sz := s.heap.size)
  generalize hAe : va_A ([(p_this, .inr (5, [.ref p_text, .ref p_reader, .ref p_told, .ref p_draft, .ref p_now, .ref p_imageZero, .ref p_imageOne, .ref p_slots, .ref p_placesOf, .int d_keptImages, .long d_traced])), (p_told, .inr (4, [.ref p_told_dishes, .ref p_told_speakers, .ref p_told_noises, .ref p_told_askers])), (p_told_askers, .inr (2, [.int d_told_askers_most, .ref p_told_askers_cells, .int d_told_askers_many])), (p_told_askers_cells, .inl (cI, 48, .inl d_told_askers_cells))] : va_W) s.heap.size = A at hD ⊢
  have hA : ∀ q : Nat, s.heap.size ≤ q → A q := fun q h => by rw [← hAe]; exact Or.inr h
  have hS : va_S A s.heap s.heap [] := va_S.rf
  refine W_abs (fun Q hQ => ?_)
  have hl := lv_entry ([.ref p_this, .int x1, .int x2]) (n := 3) (Nat.le_of_ble_eq_true rfl)
  rw [lg_entry_eq]
  generalize (lg_sl ([.ref p_this, .int x1, .int x2]) ++ List.replicate (3 - (lg_sl ([.ref p_this, .int x1, .int x2])).length) Slot.unset).toArray = ls at hl ⊢
  have hl : lv_has ls 3 [(0, .ref p_this), (1, .int x1), (2, .int x2)] := hl
  rw [f_X5_asker] at hrun
  refine W_start (ws := [(p_this, .inr (5, [.ref p_text, .ref p_reader, .ref p_told, .ref p_draft, .ref p_now, .ref p_imageZero, .ref p_imageOne, .ref p_slots, .ref p_placesOf, .int d_keptImages, .long d_traced])), (p_told, .inr (4, [.ref p_told_dishes, .ref p_told_speakers, .ref p_told_noises, .ref p_told_askers])), (p_told_askers, .inr (2, [.int d_told_askers_most, .ref p_told_askers_cells, .int d_told_askers_many])), (p_told_askers_cells, .inl (cI, 48, .inl d_told_askers_cells))]) hP hS (fun H locs hP hS => ?_)
  have iwX4 : ∀ w ∈ wsX40, w ∈ wsX5_asker := by decide +kernel
  have iwX5 : ∀ w ∈ wsX50, w ∈ wsX5_asker := by decide +kernel
  refine lv_aload_n hx hb dX5_asker_0 rfl (lv_at hl 0 rfl) ?_
  refine lv_iload_n hx hb dX5_asker_1 rfl (lv_at hl 1 rfl) ?_
  have hPc : va_P (dC, dI) vwCl [(p_this, .inr (5, [.ref p_text, .ref p_reader, .ref p_told, .ref p_draft, .ref p_now, .ref p_imageZero, .ref p_imageOne, .ref p_slots, .ref p_placesOf, .int d_keptImages, .long d_traced])), (p_told, .inr (4, [.ref p_told_dishes, .ref p_told_speakers, .ref p_told_noises, .ref p_told_askers])), (p_told_askers, .inr (2, [.int d_told_askers_most, .ref p_told_askers_cells, .int d_told_askers_many]))] H := hP.sub [0, 1, 2] rfl
  have hDc : va_D A [(p_this, .inr (5, [.ref p_text, .ref p_reader, .ref p_told, .ref p_draft, .ref p_now, .ref p_imageZero, .ref p_imageOne, .ref p_slots, .ref p_placesOf, .int d_keptImages, .long d_traced])), (p_told, .inr (4, [.ref p_told_dishes, .ref p_told_speakers, .ref p_told_noises, .ref p_told_askers])), (p_told_askers, .inr (2, [.int d_told_askers_most, .ref p_told_askers_cells, .int d_told_askers_many]))] := hD.sub [0, 1, 2] (by decide) rfl
  have hFc := va_free (wc := [(p_this, .inr (5, [.ref p_text, .ref p_reader, .ref p_told, .ref p_draft, .ref p_now, .ref p_imageZero, .ref p_imageOne, .ref p_slots, .ref p_placesOf, .int d_keptImages, .long d_traced])), (p_told, .inr (4, [.ref p_told_dishes, .ref p_told_speakers, .ref p_told_noises, .ref p_told_askers])), (p_told_askers, .inr (2, [.int d_told_askers_most, .ref p_told_askers_cells, .int d_told_askers_many]))]) hD hS hA [0, 1, 2] rfl
  refine va_calli (va_runV (As := [.int x1]) (rest := []) ⟨hx, hb, hml, hown, hts⟩ (c_X5_isAsker l dC dI cI cZ H.size p_draft p_imageOne p_imageZero p_now p_placesOf p_reader p_slots p_text p_this p_told p_told_askers p_told_askers_cells p_told_dishes p_told_noises p_told_speakers d_keptImages d_traced d_told_askers_most d_told_askers_many x1 (f_X5_isAsker d_told_askers_many x1) rfl) (cwV 1 hts gX5_asker_X5_isAsker rfl rfl rfl (by decide +kernel) ⟨Nat.le_of_ble_eq_true rfl, Nat.le_of_ble_eq_true rfl⟩) ⟨fun a U g mk q => ⟨q.1, PC.mv q.2⟩, va_recv hK hP (ci := 5) (q0 := 0) rfl rfl, fun U hU hW => ⟨rfl, PC.of hU hW hPc hK hDc hN⟩⟩ rfl rfl hl.1 rfl (lv_room (Nat.le_of_ble_eq_true rfl)) dX5_asker_2 ⟨Nat.zero_le _, Nat.zero_le _⟩) hS (fun q _ h => hFc q h) hFc (fun r_2 u t H1 locs ht hvm hw hB hz1 hk1 hS => ?_)
  obtain ⟨hP1, hD1⟩ := hB
  try dsimp only at hw
  rw [hw]
  rw [ht] at hP1
  have hP : va_P (dC, dI) vwCl [(p_this, .inr (5, [.ref p_text, .ref p_reader, .ref p_told, .ref p_draft, .ref p_now, .ref p_imageZero, .ref p_imageOne, .ref p_slots, .ref p_placesOf, .int d_keptImages, .long d_traced])), (p_told, .inr (4, [.ref p_told_dishes, .ref p_told_speakers, .ref p_told_noises, .ref p_told_askers])), (p_told_askers, .inr (2, [.int d_told_askers_most, .ref p_told_askers_cells, .int d_told_askers_many])), (p_told_askers_cells, .inl (cI, 48, .inl d_told_askers_cells))] H1 := join_ro hP hD [0, 1, 2] rfl hk1 hP1
  clear hPc hDc hFc hk1 hz1 hP1 hD1 ht hvm
  generalize H1 = H at hP hS ⊢
  refine lv_if_eq (tgt := 30) hx hb dX5_asker_5 (by decide) (fun c_5 => ?_) (fun c_5 => ?_)
  · rw [if_pos c_5] at hrun
    refine lv_iconst (v := (-1)) hx hb dX5_asker_30 (by decide) ?_
    have hrun := hrun
    subst hrun
    rw [hQ]
    exact W.iret (v := (-1)) hx hb hr (fun t ht hW => ⟨⟨(-1), (), rfl, rfl, by rw [ht]; exact hP, hD⟩, hS.F ht⟩) hS.2.2 dX5_asker_31
  · rw [if_neg c_5] at hrun
    refine lv_iload_n hx hb dX5_asker_8 rfl (lv_at hl 2 rfl) ?_
    have hPc : va_P (dC, dI) vwCl [] H := hP.sub [] rfl
    have hDc : va_D A [] := hD.sub [] (by decide) rfl
    have hFc := va_free (wc := []) hD hS hA [] rfl
    refine va_calli (va_runS (As := [.int x2]) (rest := []) ⟨hx, hb, hml, hown, hts⟩ (c_X5_isBit l dC dI cI cZ H.size x2 (f_X5_isBit x2) rfl) (va_cwS 1 hts gX5_asker_X5_isBit rfl rfl rfl (by decide +kernel) ⟨Nat.le_of_ble_eq_true rfl, Nat.le_of_ble_eq_true rfl⟩) ⟨fun a U g mk q => ⟨q.1, PC.mv q.2⟩, fun U hU hW => ⟨rfl, PC.of hU hW hPc hK hDc hN⟩⟩ rfl rfl hl.1 rfl (lv_room (Nat.le_of_ble_eq_true rfl)) dX5_asker_9 ⟨Nat.zero_le _, Nat.zero_le _⟩) hS (fun q _ h => hFc q h) hFc (fun r_9 u t H1 locs ht hvm hw hB hz1 hk1 hS => ?_)
    obtain ⟨hP1, hD1⟩ := hB
    try dsimp only at hw
    rw [hw]
    rw [ht] at hP1
    have hP : va_P (dC, dI) vwCl [(p_this, .inr (5, [.ref p_text, .ref p_reader, .ref p_told, .ref p_draft, .ref p_now, .ref p_imageZero, .ref p_imageOne, .ref p_slots, .ref p_placesOf, .int d_keptImages, .long d_traced])), (p_told, .inr (4, [.ref p_told_dishes, .ref p_told_speakers, .ref p_told_noises, .ref p_told_askers])), (p_told_askers, .inr (2, [.int d_told_askers_most, .ref p_told_askers_cells, .int d_told_askers_many])), (p_told_askers_cells, .inl (cI, 48, .inl d_told_askers_cells))] H1 := join_ro hP hD [] rfl hk1 hP1
    clear hPc hDc hFc hk1 hz1 hP1 hD1 ht hvm
    generalize H1 = H at hP hS ⊢
    refine lv_if_eq (tgt := 30) hx hb dX5_asker_12 (by decide) (fun c_12 => ?_) (fun c_12 => ?_)
    · rw [if_pos c_12] at hrun
      refine lv_iconst (v := (-1)) hx hb dX5_asker_30 (by decide) ?_
      have hrun := hrun
      subst hrun
      rw [hQ]
      exact W.iret (v := (-1)) hx hb hr (fun t ht hW => ⟨⟨(-1), (), rfl, rfl, by rw [ht]; exact hP, hD⟩, hS.F ht⟩) hS.2.2 dX5_asker_31
    · rw [if_neg c_12] at hrun
      refine lv_aload_n hx hb dX5_asker_15 rfl (lv_at hl 0 rfl) ?_
      refine va_get (D := (dC, dI)) (ci := 5) (v := .ref p_told) (C := RX5) (T := TX5) (N := 11) hx hb hts iwX5 hown hK hP 0 rfl rfl 2 (by decide) (hts (.fieldLink RX5 26 "SkyListeners" "told" "LSkyListeners$Valley;") (by decide +kernel)) (fun _ h9 => h9) rfl dX5_asker_16 ?_
      refine va_get (D := (dC, dI)) (ci := 4) (v := .ref p_told_askers) (C := RX4) (T := TX4) (N := 4) hx hb hts iwX4 hown hK hP 1 rfl rfl 3 (by decide) (hts (.fieldLink RX5 106 "SkyListeners$Valley" "askers" "LSkyListeners$Rows;") (by decide +kernel)) (fun _ h9 => h9) rfl dX5_asker_19 ?_
      refine lv_iload_n hx hb dX5_asker_22 rfl (lv_at hl 1 rfl) ?_
      refine lv_iload_n hx hb dX5_asker_23 rfl (lv_at hl 2 rfl) ?_
      have hPc : va_P (dC, dI) vwCl [(p_told_askers, .inr (2, [.int d_told_askers_most, .ref p_told_askers_cells, .int d_told_askers_many])), (p_told_askers_cells, .inl (cI, 48, .inl d_told_askers_cells))] H := hP.sub [2, 3] rfl
      have hDc : va_D A [(p_told_askers, .inr (2, [.int d_told_askers_most, .ref p_told_askers_cells, .int d_told_askers_many])), (p_told_askers_cells, .inl (cI, 48, .inl d_told_askers_cells))] := hD.sub [2, 3] (by decide) rfl
      have hFc := va_free (wc := [(p_told_askers, .inr (2, [.int d_told_askers_most, .ref p_told_askers_cells, .int d_told_askers_many])), (p_told_askers_cells, .inl (cI, 48, .inl d_told_askers_cells))]) hD hS hA [2, 3] rfl
      refine va_calli (va_runV (As := [.int x1, .int x2]) (rest := []) ⟨hx, hb, hml, hown, hts⟩ (c_X2_number l dC dI cI cZ H.size p_told_askers_cells p_told_askers d_told_askers_most d_told_askers_many d_told_askers_cells x1 x2 (f_X2_number d_told_askers_many d_told_askers_cells x1 x2) rfl) (cwV 2 hts gX5_asker_X2_number rfl rfl rfl (by decide +kernel) ⟨Nat.le_of_ble_eq_true rfl, Nat.le_of_ble_eq_true rfl⟩) ⟨fun a U g mk q => ⟨q.1, PC.mv q.2⟩, va_recv hK hP (ci := 2) (q0 := 2) rfl rfl, fun U hU hW => ⟨rfl, PC.of hU hW hPc hK hDc hN⟩⟩ rfl rfl hl.1 rfl (lv_room (Nat.le_of_ble_eq_true rfl)) dX5_asker_24 ⟨Nat.zero_le _, Nat.zero_le _⟩) hS (fun q _ h => hFc q h) hFc (fun r_24 u t H1 locs ht hvm hw hB hz1 hk1 hS => ?_)
      obtain ⟨hP1, hD1⟩ := hB
      try dsimp only at hw
      rw [hw]
      rw [ht] at hP1
      have hP : va_P (dC, dI) vwCl [(p_this, .inr (5, [.ref p_text, .ref p_reader, .ref p_told, .ref p_draft, .ref p_now, .ref p_imageZero, .ref p_imageOne, .ref p_slots, .ref p_placesOf, .int d_keptImages, .long d_traced])), (p_told, .inr (4, [.ref p_told_dishes, .ref p_told_speakers, .ref p_told_noises, .ref p_told_askers])), (p_told_askers, .inr (2, [.int d_told_askers_most, .ref p_told_askers_cells, .int d_told_askers_many])), (p_told_askers_cells, .inl (cI, 48, .inl d_told_askers_cells))] H1 := join_ro hP hD [2, 3] rfl hk1 hP1
      clear hPc hDc hFc hk1 hz1 hP1 hD1 ht hvm
      generalize H1 = H at hP hS ⊢
      refine lv_goto (tgt := 31) hx hb dX5_asker_27 (by decide) ?_
      have hrun := hrun
      subst hrun
      rw [hQ]
      exact W.iret (v := (f_X2_number d_told_askers_many d_told_askers_cells x1 x2)) hx hb hr (fun t ht hW => ⟨⟨(f_X2_number d_told_askers_many d_told_askers_cells x1 x2), (), rfl, rfl, by rw [ht]; exact hP, hD⟩, hS.F ht⟩) hS.2.2 dX5_asker_31
-- SkyListeners.turn
def f_X5_turn (d_now_mounts_many : Int32) (d_now_mounts_cells : Nat → Int32) (d_now_undos_most : Int32) (d_now_undos_many : Int32) (d_now_undos_cells : Nat → Int32) (x1 : Int32) (x2 : Int32) : Option (Int32 × (Nat → Int32) × Int32 × (Nat → Int32)) := (if (f_X5_isDish d_now_mounts_many x1) = 0 then (some ((-1), d_now_mounts_cells, d_now_undos_many, d_now_undos_cells)) else (if x2 < 0 then (some ((-1), d_now_mounts_cells, d_now_undos_many, d_now_undos_cells)) else (if x2 < 8 then (if (f_X2_number d_now_mounts_many d_now_mounts_cells x1 0) = x2 then (some ((-2), d_now_mounts_cells, d_now_undos_many, d_now_undos_cells)) else ((f_X0_remember d_now_undos_most d_now_undos_many d_now_undos_cells x1 (f_X2_number d_now_mounts_many d_now_mounts_cells x1 0)).bind fun q60 => (some ((f_X2_number d_now_mounts_many d_now_mounts_cells x1 0), (f_X2_set d_now_mounts_many d_now_mounts_cells x1 0 x2), q60.1, q60.2)))) else (some ((-1), d_now_mounts_cells, d_now_undos_many, d_now_undos_cells)))))
set_option maxHeartbeats 4000000 in
set_option maxRecDepth 100000 in
theorem c_X5_turn (l : Launch) (dC : Nat → ClassId) (dI : Nat → Nat → Nat) (cI cZ : ClassId) (sz : Nat) (p_draft p_imageOne p_imageZero p_now p_now_lendings p_now_log p_now_mounts p_now_mounts_cells p_now_undos p_now_undos_cells p_placesOf p_reader p_slots p_text p_this p_told : Nat) (d_keptImages : Int32) (d_traced : Int64) (d_now_mounts_most : Int32) (d_now_mounts_many : Int32) (d_now_mounts_cells : Nat → Int32) (d_now_undos_most : Int32) (d_now_undos_many : Int32) (d_now_undos_cells : Nat → Int32) (x1 : Int32) (x2 : Int32) (out : Int32 × (Nat → Int32) × Int32 × (Nat → Int32)) (hrun : f_X5_turn d_now_mounts_many d_now_mounts_cells d_now_undos_most d_now_undos_many d_now_undos_cells x1 x2 = some out) : Met l yX5_turn wsX5_turn ({ frames := 4, cells := 0, slots := 0, locals := 91 } : Room) (va_Pc [.ref p_this, .int x1, .int x2] (PC dC dI cI cZ sz ([(p_this, .inr (5, [.ref p_text, .ref p_reader, .ref p_told, .ref p_draft, .ref p_now, .ref p_imageZero, .ref p_imageOne, .ref p_slots, .ref p_placesOf, .int d_keptImages, .long d_traced])), (p_now, .inr (0, [.ref p_now_mounts, .ref p_now_lendings, .ref p_now_log, .ref p_now_undos])), (p_now_mounts, .inr (2, [.int d_now_mounts_most, .ref p_now_mounts_cells, .int d_now_mounts_many])), (p_now_mounts_cells, .inl (cI, 48, .inl d_now_mounts_cells)), (p_now_undos, .inr (2, [.int d_now_undos_most, .ref p_now_undos_cells, .int d_now_undos_many])), (p_now_undos_cells, .inl (cI, 48, .inl d_now_undos_cells))] : va_W))) (va_Qi (fun r (_ : Unit) => r = out.1) (fun _ t => va_P (dC, dI) vwCl [(p_this, .inr (5, [.ref p_text, .ref p_reader, .ref p_told, .ref p_draft, .ref p_now, .ref p_imageZero, .ref p_imageOne, .ref p_slots, .ref p_placesOf, .int d_keptImages, .long d_traced])), (p_now, .inr (0, [.ref p_now_mounts, .ref p_now_lendings, .ref p_now_log, .ref p_now_undos])), (p_now_mounts, .inr (2, [.int d_now_mounts_most, .ref p_now_mounts_cells, .int d_now_mounts_many])), (p_now_mounts_cells, .inl (cI, 48, .inl out.2.1)), (p_now_undos, .inr (2, [.int d_now_undos_most, .ref p_now_undos_cells, .int out.2.2.1])), (p_now_undos_cells, .inl (cI, 48, .inl out.2.2.2))] t.heap ∧ va_D (va_A ([(p_this, .inr (5, [.ref p_text, .ref p_reader, .ref p_told, .ref p_draft, .ref p_now, .ref p_imageZero, .ref p_imageOne, .ref p_slots, .ref p_placesOf, .int d_keptImages, .long d_traced])), (p_now, .inr (0, [.ref p_now_mounts, .ref p_now_lendings, .ref p_now_log, .ref p_now_undos])), (p_now_mounts, .inr (2, [.int d_now_mounts_most, .ref p_now_mounts_cells, .int d_now_mounts_many])), (p_now_mounts_cells, .inl (cI, 48, .inl d_now_mounts_cells)), (p_now_undos, .inr (2, [.int d_now_undos_most, .ref p_now_undos_cells, .int d_now_undos_many])), (p_now_undos_cells, .inl (cI, 48, .inl d_now_undos_cells))] : va_W) sz) [(p_this, .inr (5, [.ref p_text, .ref p_reader, .ref p_told, .ref p_draft, .ref p_now, .ref p_imageZero, .ref p_imageOne, .ref p_slots, .ref p_placesOf, .int d_keptImages, .long d_traced])), (p_now, .inr (0, [.ref p_now_mounts, .ref p_now_lendings, .ref p_now_log, .ref p_now_undos])), (p_now_mounts, .inr (2, [.int d_now_mounts_most, .ref p_now_mounts_cells, .int d_now_mounts_many])), (p_now_mounts_cells, .inl (cI, 48, .inl out.2.1)), (p_now_undos, .inr (2, [.int d_now_undos_most, .ref p_now_undos_cells, .int out.2.2.1])), (p_now_undos_cells, .inl (cI, 48, .inl out.2.2.2))]) (va_A ([(p_this, .inr (5, [.ref p_text, .ref p_reader, .ref p_told, .ref p_draft, .ref p_now, .ref p_imageZero, .ref p_imageOne, .ref p_slots, .ref p_placesOf, .int d_keptImages, .long d_traced])), (p_now, .inr (0, [.ref p_now_mounts, .ref p_now_lendings, .ref p_now_log, .ref p_now_undos])), (p_now_mounts, .inr (2, [.int d_now_mounts_most, .ref p_now_mounts_cells, .int d_now_mounts_many])), (p_now_mounts_cells, .inl (cI, 48, .inl d_now_mounts_cells)), (p_now_undos, .inr (2, [.int d_now_undos_most, .ref p_now_undos_cells, .int d_now_undos_many])), (p_now_undos_cells, .inl (cI, 48, .inl d_now_undos_cells))] : va_W) sz)) 0 0 (va_A ([(p_this, .inr (5, [.ref p_text, .ref p_reader, .ref p_told, .ref p_draft, .ref p_now, .ref p_imageZero, .ref p_imageOne, .ref p_slots, .ref p_placesOf, .int d_keptImages, .long d_traced])), (p_now, .inr (0, [.ref p_now_mounts, .ref p_now_lendings, .ref p_now_log, .ref p_now_undos])), (p_now_mounts, .inr (2, [.int d_now_mounts_most, .ref p_now_mounts_cells, .int d_now_mounts_many])), (p_now_mounts_cells, .inl (cI, 48, .inl d_now_mounts_cells)), (p_now_undos, .inr (2, [.int d_now_undos_most, .ref p_now_undos_cells, .int d_now_undos_many])), (p_now_undos_cells, .inl (cI, 48, .inl d_now_undos_cells))] : va_W) sz) := by
  refine Met.ofW (cc := cX5_turn) (maxL := 4) (ret := (some .int)) (by decide) rfl ?_
  intro p e s m args below meth c s₁ B hml hv
  obtain ⟨rfl, hsz, hP, hK, hD0, hN⟩ := hv
  have hx := B.exec
  have hb := B.bytes
  have hr := B.returns
  have hts := atoms_spec (ws := wsX5_turn) B.pre
  have hown : s.vm.findClass RX5 = some m.cls := findClass_of_methodNamed B.named
  have hlocks := B.notSynchronized
  subst hsz
  have hD := hD0.self (sz := s.heap.size)
  generalize hAe : va_A ([(p_this, .inr (5, [.ref p_text, .ref p_reader, .ref p_told, .ref p_draft, .ref p_now, .ref p_imageZero, .ref p_imageOne, .ref p_slots, .ref p_placesOf, .int d_keptImages, .long d_traced])), (p_now, .inr (0, [.ref p_now_mounts, .ref p_now_lendings, .ref p_now_log, .ref p_now_undos])), (p_now_mounts, .inr (2, [.int d_now_mounts_most, .ref p_now_mounts_cells, .int d_now_mounts_many])), (p_now_mounts_cells, .inl (cI, 48, .inl d_now_mounts_cells)), (p_now_undos, .inr (2, [.int d_now_undos_most, .ref p_now_undos_cells, .int d_now_undos_many])), (p_now_undos_cells, .inl (cI, 48, .inl d_now_undos_cells))] : va_W) s.heap.size = A at hD ⊢
  have hA : ∀ q : Nat, s.heap.size ≤ q → A q := fun q h => by rw [← hAe]; exact Or.inr h
  have hS : va_S A s.heap s.heap [] := va_S.rf
  refine W_abs (fun Q hQ => ?_)
  have hl := lv_entry ([.ref p_this, .int x1, .int x2]) (n := 4) (Nat.le_of_ble_eq_true rfl)
  rw [lg_entry_eq]
  generalize (lg_sl ([.ref p_this, .int x1, .int x2]) ++ List.replicate (4 - (lg_sl ([.ref p_this, .int x1, .int x2])).length) Slot.unset).toArray = ls at hl ⊢
  have hl : lv_has ls 4 [(0, .ref p_this), (1, .int x1), (2, .int x2)] := hl
  rw [f_X5_turn] at hrun
  refine W_start (ws := [(p_this, .inr (5, [.ref p_text, .ref p_reader, .ref p_told, .ref p_draft, .ref p_now, .ref p_imageZero, .ref p_imageOne, .ref p_slots, .ref p_placesOf, .int d_keptImages, .long d_traced])), (p_now, .inr (0, [.ref p_now_mounts, .ref p_now_lendings, .ref p_now_log, .ref p_now_undos])), (p_now_mounts, .inr (2, [.int d_now_mounts_most, .ref p_now_mounts_cells, .int d_now_mounts_many])), (p_now_mounts_cells, .inl (cI, 48, .inl d_now_mounts_cells)), (p_now_undos, .inr (2, [.int d_now_undos_most, .ref p_now_undos_cells, .int d_now_undos_many])), (p_now_undos_cells, .inl (cI, 48, .inl d_now_undos_cells))]) hP hS (fun H locs hP hS => ?_)
  have iwX0 : ∀ w ∈ wsX00, w ∈ wsX5_turn := by decide +kernel
  have iwX5 : ∀ w ∈ wsX50, w ∈ wsX5_turn := by decide +kernel
  refine lv_aload_n hx hb dX5_turn_0 rfl (lv_at hl 0 rfl) ?_
  refine lv_iload_n hx hb dX5_turn_1 rfl (lv_at hl 1 rfl) ?_
  have hPc : va_P (dC, dI) vwCl [(p_this, .inr (5, [.ref p_text, .ref p_reader, .ref p_told, .ref p_draft, .ref p_now, .ref p_imageZero, .ref p_imageOne, .ref p_slots, .ref p_placesOf, .int d_keptImages, .long d_traced])), (p_now, .inr (0, [.ref p_now_mounts, .ref p_now_lendings, .ref p_now_log, .ref p_now_undos])), (p_now_mounts, .inr (2, [.int d_now_mounts_most, .ref p_now_mounts_cells, .int d_now_mounts_many]))] H := hP.sub [0, 1, 2] rfl
  have hDc : va_D A [(p_this, .inr (5, [.ref p_text, .ref p_reader, .ref p_told, .ref p_draft, .ref p_now, .ref p_imageZero, .ref p_imageOne, .ref p_slots, .ref p_placesOf, .int d_keptImages, .long d_traced])), (p_now, .inr (0, [.ref p_now_mounts, .ref p_now_lendings, .ref p_now_log, .ref p_now_undos])), (p_now_mounts, .inr (2, [.int d_now_mounts_most, .ref p_now_mounts_cells, .int d_now_mounts_many]))] := hD.sub [0, 1, 2] (by decide) rfl
  have hFc := va_free (wc := [(p_this, .inr (5, [.ref p_text, .ref p_reader, .ref p_told, .ref p_draft, .ref p_now, .ref p_imageZero, .ref p_imageOne, .ref p_slots, .ref p_placesOf, .int d_keptImages, .long d_traced])), (p_now, .inr (0, [.ref p_now_mounts, .ref p_now_lendings, .ref p_now_log, .ref p_now_undos])), (p_now_mounts, .inr (2, [.int d_now_mounts_most, .ref p_now_mounts_cells, .int d_now_mounts_many]))]) hD hS hA [0, 1, 2] rfl
  refine va_calli (va_runV (As := [.int x1]) (rest := []) ⟨hx, hb, hml, hown, hts⟩ (c_X5_isDish l dC dI cI cZ H.size p_draft p_imageOne p_imageZero p_now p_now_lendings p_now_log p_now_mounts p_now_mounts_cells p_now_undos p_placesOf p_reader p_slots p_text p_this p_told d_keptImages d_traced d_now_mounts_most d_now_mounts_many x1 (f_X5_isDish d_now_mounts_many x1) rfl) (cwV 1 hts gX5_turn_X5_isDish rfl rfl rfl (by decide +kernel) ⟨Nat.le_of_ble_eq_true rfl, Nat.le_of_ble_eq_true rfl⟩) ⟨fun a U g mk q => ⟨q.1, PC.mv q.2⟩, va_recv hK hP (ci := 5) (q0 := 0) rfl rfl, fun U hU hW => ⟨rfl, PC.of hU hW hPc hK hDc hN⟩⟩ rfl rfl hl.1 rfl (lv_room (Nat.le_of_ble_eq_true rfl)) dX5_turn_2 ⟨Nat.zero_le _, Nat.zero_le _⟩) hS (fun q _ h => hFc q h) hFc (fun r_2 u t H1 locs ht hvm hw hB hz1 hk1 hS => ?_)
  obtain ⟨hP1, hD1⟩ := hB
  try dsimp only at hw
  rw [hw]
  rw [ht] at hP1
  have hP : va_P (dC, dI) vwCl [(p_this, .inr (5, [.ref p_text, .ref p_reader, .ref p_told, .ref p_draft, .ref p_now, .ref p_imageZero, .ref p_imageOne, .ref p_slots, .ref p_placesOf, .int d_keptImages, .long d_traced])), (p_now, .inr (0, [.ref p_now_mounts, .ref p_now_lendings, .ref p_now_log, .ref p_now_undos])), (p_now_mounts, .inr (2, [.int d_now_mounts_most, .ref p_now_mounts_cells, .int d_now_mounts_many])), (p_now_mounts_cells, .inl (cI, 48, .inl d_now_mounts_cells)), (p_now_undos, .inr (2, [.int d_now_undos_most, .ref p_now_undos_cells, .int d_now_undos_many])), (p_now_undos_cells, .inl (cI, 48, .inl d_now_undos_cells))] H1 := join_ro hP hD [0, 1, 2] rfl hk1 hP1
  clear hPc hDc hFc hk1 hz1 hP1 hD1 ht hvm
  generalize H1 = H at hP hS ⊢
  refine lv_if_eq (tgt := 18) hx hb dX5_turn_5 (by decide) (fun c_5 => ?_) (fun c_5 => ?_)
  · rw [if_pos c_5] at hrun
    refine lv_iconst (v := (-1)) hx hb dX5_turn_18 (by decide) ?_
    have hrun := Option.some.inj hrun
    subst hrun
    rw [hQ]
    exact W.iret (v := (-1)) hx hb hr (fun t ht hW => ⟨⟨(-1), (), rfl, rfl, by rw [ht]; exact hP, hD⟩, hS.F ht⟩) hS.2.2 dX5_turn_19
  · rw [if_neg c_5] at hrun
    refine lv_iload_n hx hb dX5_turn_8 rfl (lv_at hl 2 rfl) ?_
    refine lv_if_lt (tgt := 18) hx hb dX5_turn_9 (by decide) (fun c_9 => ?_) (fun c_9 => ?_)
    · rw [if_pos c_9] at hrun
      refine lv_iconst (v := (-1)) hx hb dX5_turn_18 (by decide) ?_
      have hrun := Option.some.inj hrun
      subst hrun
      rw [hQ]
      exact W.iret (v := (-1)) hx hb hr (fun t ht hW => ⟨⟨(-1), (), rfl, rfl, by rw [ht]; exact hP, hD⟩, hS.F ht⟩) hS.2.2 dX5_turn_19
    · rw [if_neg c_9] at hrun
      refine lv_iload_n hx hb dX5_turn_12 rfl (lv_at hl 2 rfl) ?_
      refine lv_bipush (v := 8) hx hb dX5_turn_13 (by decide) ?_
      refine lv_icmp_lt (tgt := 20) hx hb dX5_turn_15 (by decide) (fun c_15 => ?_) (fun c_15 => ?_)
      · rw [if_pos c_15] at hrun
        refine lv_aload_n hx hb dX5_turn_20 rfl (lv_at hl 0 rfl) ?_
        refine va_get (D := (dC, dI)) (ci := 5) (v := .ref p_now) (C := RX5) (T := TX5) (N := 11) hx hb hts iwX5 hown hK hP 0 rfl rfl 4 (by decide) (hts (.fieldLink RX5 36 "SkyListeners" "now" "LSkyListeners$Now;") (by decide +kernel)) (fun _ h9 => h9) rfl dX5_turn_21 ?_
        refine va_get (D := (dC, dI)) (ci := 0) (v := .ref p_now_mounts) (C := RX0) (T := TX0) (N := 4) hx hb hts iwX0 hown hK hP 1 rfl rfl 0 (by decide) (hts (.fieldLink RX5 115 "SkyListeners$Now" "mounts" "LSkyListeners$Rows;") (by decide +kernel)) (fun _ h9 => h9) rfl dX5_turn_24 ?_
        refine lv_iload_n hx hb dX5_turn_27 rfl (lv_at hl 1 rfl) ?_
        refine lv_iconst (v := 0) hx hb dX5_turn_28 (by decide) ?_
        have hPc : va_P (dC, dI) vwCl [(p_now_mounts, .inr (2, [.int d_now_mounts_most, .ref p_now_mounts_cells, .int d_now_mounts_many])), (p_now_mounts_cells, .inl (cI, 48, .inl d_now_mounts_cells))] H := hP.sub [2, 3] rfl
        have hDc : va_D A [(p_now_mounts, .inr (2, [.int d_now_mounts_most, .ref p_now_mounts_cells, .int d_now_mounts_many])), (p_now_mounts_cells, .inl (cI, 48, .inl d_now_mounts_cells))] := hD.sub [2, 3] (by decide) rfl
        have hFc := va_free (wc := [(p_now_mounts, .inr (2, [.int d_now_mounts_most, .ref p_now_mounts_cells, .int d_now_mounts_many])), (p_now_mounts_cells, .inl (cI, 48, .inl d_now_mounts_cells))]) hD hS hA [2, 3] rfl
        refine va_calli (va_runV (As := [.int x1, .int 0]) (rest := []) ⟨hx, hb, hml, hown, hts⟩ (c_X2_number l dC dI cI cZ H.size p_now_mounts_cells p_now_mounts d_now_mounts_most d_now_mounts_many d_now_mounts_cells x1 0 (f_X2_number d_now_mounts_many d_now_mounts_cells x1 0) rfl) (cwV 2 hts gX5_turn_X2_number rfl rfl rfl (by decide +kernel) ⟨Nat.le_of_ble_eq_true rfl, Nat.le_of_ble_eq_true rfl⟩) ⟨fun a U g mk q => ⟨q.1, PC.mv q.2⟩, va_recv hK hP (ci := 2) (q0 := 2) rfl rfl, fun U hU hW => ⟨rfl, PC.of hU hW hPc hK hDc hN⟩⟩ rfl rfl hl.1 rfl (lv_room (Nat.le_of_ble_eq_true rfl)) dX5_turn_29 ⟨Nat.zero_le _, Nat.zero_le _⟩) hS (fun q _ h => hFc q h) hFc (fun r_29 u t H1 locs ht hvm hw hB hz1 hk1 hS => ?_)
        obtain ⟨hP1, hD1⟩ := hB
        try dsimp only at hw
        rw [hw]
        rw [ht] at hP1
        have hP : va_P (dC, dI) vwCl [(p_this, .inr (5, [.ref p_text, .ref p_reader, .ref p_told, .ref p_draft, .ref p_now, .ref p_imageZero, .ref p_imageOne, .ref p_slots, .ref p_placesOf, .int d_keptImages, .long d_traced])), (p_now, .inr (0, [.ref p_now_mounts, .ref p_now_lendings, .ref p_now_log, .ref p_now_undos])), (p_now_mounts, .inr (2, [.int d_now_mounts_most, .ref p_now_mounts_cells, .int d_now_mounts_many])), (p_now_mounts_cells, .inl (cI, 48, .inl d_now_mounts_cells)), (p_now_undos, .inr (2, [.int d_now_undos_most, .ref p_now_undos_cells, .int d_now_undos_many])), (p_now_undos_cells, .inl (cI, 48, .inl d_now_undos_cells))] H1 := join_ro hP hD [2, 3] rfl hk1 hP1
        clear hPc hDc hFc hk1 hz1 hP1 hD1 ht hvm
        generalize H1 = H at hP hS ⊢
        refine lv_istore_n (lv' := [(3, .int (f_X2_number d_now_mounts_many d_now_mounts_cells x1 0)), (0, .ref p_this), (1, .int x1), (2, .int x2)]) hx hb dX5_turn_32 rfl hl (by decide) rfl (fun ls hl => ?_)
        refine lv_iload_n hx hb dX5_turn_33 rfl (lv_at hl 0 rfl) ?_
        refine lv_iload_n hx hb dX5_turn_34 rfl (lv_at hl 3 rfl) ?_
        refine lv_icmp_ne (tgt := 41) hx hb dX5_turn_35 (by decide) (fun c_35 => ?_) (fun c_35 => ?_)
        · rw [if_neg c_35] at hrun
          refine lv_aload_n hx hb dX5_turn_41 rfl (lv_at hl 1 rfl) ?_
          refine va_get (D := (dC, dI)) (ci := 5) (v := .ref p_now) (C := RX5) (T := TX5) (N := 11) hx hb hts iwX5 hown hK hP 0 rfl rfl 4 (by decide) (hts (.fieldLink RX5 36 "SkyListeners" "now" "LSkyListeners$Now;") (by decide +kernel)) (fun _ h9 => h9) rfl dX5_turn_42 ?_
          refine va_get (D := (dC, dI)) (ci := 0) (v := .ref p_now_mounts) (C := RX0) (T := TX0) (N := 4) hx hb hts iwX0 hown hK hP 1 rfl rfl 0 (by decide) (hts (.fieldLink RX5 115 "SkyListeners$Now" "mounts" "LSkyListeners$Rows;") (by decide +kernel)) (fun _ h9 => h9) rfl dX5_turn_45 ?_
          refine lv_iload_n hx hb dX5_turn_48 rfl (lv_at hl 2 rfl) ?_
          refine lv_iconst (v := 0) hx hb dX5_turn_49 (by decide) ?_
          refine lv_iload_n hx hb dX5_turn_50 rfl (lv_at hl 3 rfl) ?_
          have hPc : va_P (dC, dI) vwCl [(p_now_mounts, .inr (2, [.int d_now_mounts_most, .ref p_now_mounts_cells, .int d_now_mounts_many])), (p_now_mounts_cells, .inl (cI, 48, .inl d_now_mounts_cells))] H := hP.sub [2, 3] rfl
          have hDc : va_D A [(p_now_mounts, .inr (2, [.int d_now_mounts_most, .ref p_now_mounts_cells, .int d_now_mounts_many])), (p_now_mounts_cells, .inl (cI, 48, .inl d_now_mounts_cells))] := hD.sub [2, 3] (by decide) rfl
          have hFc := va_free (wc := [(p_now_mounts, .inr (2, [.int d_now_mounts_most, .ref p_now_mounts_cells, .int d_now_mounts_many])), (p_now_mounts_cells, .inl (cI, 48, .inl d_now_mounts_cells))]) hD hS hA [2, 3] rfl
          refine va_callv (va_runV (As := [.int x1, .int 0, .int x2]) (rest := []) ⟨hx, hb, hml, hown, hts⟩ (c_X2_set l dC dI cI cZ H.size p_now_mounts_cells p_now_mounts d_now_mounts_most d_now_mounts_many d_now_mounts_cells x1 0 x2 (f_X2_set d_now_mounts_many d_now_mounts_cells x1 0 x2) rfl) (cwV 3 hts gX5_turn_X2_set rfl rfl rfl (by decide +kernel) ⟨Nat.le_of_ble_eq_true rfl, Nat.le_of_ble_eq_true rfl⟩) ⟨fun a U g mk q => ⟨q.1, PC.mv q.2⟩, va_recv hK hP (ci := 2) (q0 := 2) rfl rfl, fun U hU hW => ⟨rfl, PC.of hU hW hPc hK hDc hN⟩⟩ rfl rfl hl.1 rfl (lv_room (Nat.le_of_ble_eq_true rfl)) dX5_turn_51 ⟨Nat.zero_le _, Nat.zero_le _⟩) hS (fun q _ h => hFc q h) hFc (fun u t H1 locs ht hvm hw hB hz1 hk1 hS => ?_)
          obtain ⟨hP1, hD1⟩ := hB
          rw [ht] at hP1
          obtain ⟨hP, hD⟩ := va_join (wr := [(p_this, .inr (5, [.ref p_text, .ref p_reader, .ref p_told, .ref p_draft, .ref p_now, .ref p_imageZero, .ref p_imageOne, .ref p_slots, .ref p_placesOf, .int d_keptImages, .long d_traced])), (p_now, .inr (0, [.ref p_now_mounts, .ref p_now_lendings, .ref p_now_log, .ref p_now_undos])), (p_now_undos, .inr (2, [.int d_now_undos_most, .ref p_now_undos_cells, .int d_now_undos_many])), (p_now_undos_cells, .inl (cI, 48, .inl d_now_undos_cells))]) (w1 := [(p_now_mounts, .inr (2, [.int d_now_mounts_most, .ref p_now_mounts_cells, .int d_now_mounts_many])), (p_now_mounts_cells, .inl (cI, 48, .inl (f_X2_set d_now_mounts_many d_now_mounts_cells x1 0 x2)))]) hP hD [2, 3] [0, 1, 4, 5] rfl rfl (by decide) (by decide) hk1 hFc hP1 hD1
          have hP : va_P (dC, dI) vwCl [(p_this, .inr (5, [.ref p_text, .ref p_reader, .ref p_told, .ref p_draft, .ref p_now, .ref p_imageZero, .ref p_imageOne, .ref p_slots, .ref p_placesOf, .int d_keptImages, .long d_traced])), (p_now, .inr (0, [.ref p_now_mounts, .ref p_now_lendings, .ref p_now_log, .ref p_now_undos])), (p_now_mounts, .inr (2, [.int d_now_mounts_most, .ref p_now_mounts_cells, .int d_now_mounts_many])), (p_now_mounts_cells, .inl (cI, 48, .inl (f_X2_set d_now_mounts_many d_now_mounts_cells x1 0 x2))), (p_now_undos, .inr (2, [.int d_now_undos_most, .ref p_now_undos_cells, .int d_now_undos_many])), (p_now_undos_cells, .inl (cI, 48, .inl d_now_undos_cells))] H1 := hP.sub [0, 1, 4, 5, 2, 3] rfl
          have hD : va_D A [(p_this, .inr (5, [.ref p_text, .ref p_reader, .ref p_told, .ref p_draft, .ref p_now, .ref p_imageZero, .ref p_imageOne, .ref p_slots, .ref p_placesOf, .int d_keptImages, .long d_traced])), (p_now, .inr (0, [.ref p_now_mounts, .ref p_now_lendings, .ref p_now_log, .ref p_now_undos])), (p_now_mounts, .inr (2, [.int d_now_mounts_most, .ref p_now_mounts_cells, .int d_now_mounts_many])), (p_now_mounts_cells, .inl (cI, 48, .inl (f_X2_set d_now_mounts_many d_now_mounts_cells x1 0 x2))), (p_now_undos, .inr (2, [.int d_now_undos_most, .ref p_now_undos_cells, .int d_now_undos_many])), (p_now_undos_cells, .inl (cI, 48, .inl d_now_undos_cells))] := hD.sub [0, 1, 4, 5, 2, 3] (by decide) rfl
          clear hPc hDc hFc hk1 hz1 hP1 hD1 ht hvm
          generalize H1 = H at hP hS ⊢
          refine lv_aload_n hx hb dX5_turn_54 rfl (lv_at hl 1 rfl) ?_
          refine va_get (D := (dC, dI)) (ci := 5) (v := .ref p_now) (C := RX5) (T := TX5) (N := 11) hx hb hts iwX5 hown hK hP 0 rfl rfl 4 (by decide) (hts (.fieldLink RX5 36 "SkyListeners" "now" "LSkyListeners$Now;") (by decide +kernel)) (fun _ h9 => h9) rfl dX5_turn_55 ?_
          refine lv_iload_n hx hb dX5_turn_58 rfl (lv_at hl 2 rfl) ?_
          refine lv_iload_n hx hb dX5_turn_59 rfl (lv_at hl 0 rfl) ?_
          obtain ⟨q60, hq60, hrun⟩ := bind_out hrun
          have hPc : va_P (dC, dI) vwCl [(p_now, .inr (0, [.ref p_now_mounts, .ref p_now_lendings, .ref p_now_log, .ref p_now_undos])), (p_now_undos, .inr (2, [.int d_now_undos_most, .ref p_now_undos_cells, .int d_now_undos_many])), (p_now_undos_cells, .inl (cI, 48, .inl d_now_undos_cells))] H := hP.sub [1, 4, 5] rfl
          have hDc : va_D A [(p_now, .inr (0, [.ref p_now_mounts, .ref p_now_lendings, .ref p_now_log, .ref p_now_undos])), (p_now_undos, .inr (2, [.int d_now_undos_most, .ref p_now_undos_cells, .int d_now_undos_many])), (p_now_undos_cells, .inl (cI, 48, .inl d_now_undos_cells))] := hD.sub [1, 4, 5] (by decide) rfl
          have hFc := va_free (wc := [(p_now, .inr (0, [.ref p_now_mounts, .ref p_now_lendings, .ref p_now_log, .ref p_now_undos])), (p_now_undos, .inr (2, [.int d_now_undos_most, .ref p_now_undos_cells, .int d_now_undos_many])), (p_now_undos_cells, .inl (cI, 48, .inl d_now_undos_cells))]) hD hS hA [1, 4, 5] rfl
          refine va_callv (va_runV (As := [.int x1, .int (f_X2_number d_now_mounts_many d_now_mounts_cells x1 0)]) (rest := []) ⟨hx, hb, hml, hown, hts⟩ (c_X0_remember l dC dI cI cZ H.size p_now_lendings p_now_log p_now_mounts p_now p_now_undos p_now_undos_cells d_now_undos_most d_now_undos_many d_now_undos_cells x1 (f_X2_number d_now_mounts_many d_now_mounts_cells x1 0) q60 hq60) (cwV 2 hts gX5_turn_X0_remember rfl rfl rfl (by decide +kernel) ⟨Nat.le_of_ble_eq_true rfl, Nat.le_of_ble_eq_true rfl⟩) ⟨fun a U g mk q => ⟨q.1, PC.mv q.2⟩, va_recv hK hP (ci := 0) (q0 := 1) rfl rfl, fun U hU hW => ⟨rfl, PC.of hU hW hPc hK hDc hN⟩⟩ rfl rfl hl.1 rfl (lv_room (Nat.le_of_ble_eq_true rfl)) dX5_turn_60 ⟨Nat.zero_le _, Nat.zero_le _⟩) hS (fun q _ h => hFc q h) hFc (fun u t H1 locs ht hvm hw hB hz1 hk1 hS => ?_)
          obtain ⟨hP1, hD1⟩ := hB
          rw [ht] at hP1
          obtain ⟨hP, hD⟩ := va_join (wr := [(p_this, .inr (5, [.ref p_text, .ref p_reader, .ref p_told, .ref p_draft, .ref p_now, .ref p_imageZero, .ref p_imageOne, .ref p_slots, .ref p_placesOf, .int d_keptImages, .long d_traced])), (p_now_mounts, .inr (2, [.int d_now_mounts_most, .ref p_now_mounts_cells, .int d_now_mounts_many])), (p_now_mounts_cells, .inl (cI, 48, .inl (f_X2_set d_now_mounts_many d_now_mounts_cells x1 0 x2)))]) (w1 := [(p_now, .inr (0, [.ref p_now_mounts, .ref p_now_lendings, .ref p_now_log, .ref p_now_undos])), (p_now_undos, .inr (2, [.int d_now_undos_most, .ref p_now_undos_cells, .int q60.1])), (p_now_undos_cells, .inl (cI, 48, .inl q60.2))]) hP hD [1, 4, 5] [0, 2, 3] rfl rfl (by decide) (by decide) hk1 hFc hP1 hD1
          have hP : va_P (dC, dI) vwCl [(p_this, .inr (5, [.ref p_text, .ref p_reader, .ref p_told, .ref p_draft, .ref p_now, .ref p_imageZero, .ref p_imageOne, .ref p_slots, .ref p_placesOf, .int d_keptImages, .long d_traced])), (p_now, .inr (0, [.ref p_now_mounts, .ref p_now_lendings, .ref p_now_log, .ref p_now_undos])), (p_now_mounts, .inr (2, [.int d_now_mounts_most, .ref p_now_mounts_cells, .int d_now_mounts_many])), (p_now_mounts_cells, .inl (cI, 48, .inl (f_X2_set d_now_mounts_many d_now_mounts_cells x1 0 x2))), (p_now_undos, .inr (2, [.int d_now_undos_most, .ref p_now_undos_cells, .int q60.1])), (p_now_undos_cells, .inl (cI, 48, .inl q60.2))] H1 := hP.sub [0, 3, 1, 2, 4, 5] rfl
          have hD : va_D A [(p_this, .inr (5, [.ref p_text, .ref p_reader, .ref p_told, .ref p_draft, .ref p_now, .ref p_imageZero, .ref p_imageOne, .ref p_slots, .ref p_placesOf, .int d_keptImages, .long d_traced])), (p_now, .inr (0, [.ref p_now_mounts, .ref p_now_lendings, .ref p_now_log, .ref p_now_undos])), (p_now_mounts, .inr (2, [.int d_now_mounts_most, .ref p_now_mounts_cells, .int d_now_mounts_many])), (p_now_mounts_cells, .inl (cI, 48, .inl (f_X2_set d_now_mounts_many d_now_mounts_cells x1 0 x2))), (p_now_undos, .inr (2, [.int d_now_undos_most, .ref p_now_undos_cells, .int q60.1])), (p_now_undos_cells, .inl (cI, 48, .inl q60.2))] := hD.sub [0, 3, 1, 2, 4, 5] (by decide) rfl
          clear hPc hDc hFc hk1 hz1 hP1 hD1 ht hvm
          generalize H1 = H at hP hS ⊢
          refine lv_iload_n hx hb dX5_turn_63 rfl (lv_at hl 0 rfl) ?_
          have hrun := Option.some.inj hrun
          subst hrun
          rw [hQ]
          exact W.iret (v := (f_X2_number d_now_mounts_many d_now_mounts_cells x1 0)) hx hb hr (fun t ht hW => ⟨⟨(f_X2_number d_now_mounts_many d_now_mounts_cells x1 0), (), rfl, rfl, by rw [ht]; exact hP, hD⟩, hS.F ht⟩) hS.2.2 dX5_turn_64
        · rw [if_pos c_35] at hrun
          refine lv_bipush (v := (-2)) hx hb dX5_turn_38 (by decide) ?_
          have hrun := Option.some.inj hrun
          subst hrun
          rw [hQ]
          exact W.iret (v := (-2)) hx hb hr (fun t ht hW => ⟨⟨(-2), (), rfl, rfl, by rw [ht]; exact hP, hD⟩, hS.F ht⟩) hS.2.2 dX5_turn_40
      · rw [if_neg c_15] at hrun
        refine lv_iconst (v := (-1)) hx hb dX5_turn_18 (by decide) ?_
        have hrun := Option.some.inj hrun
        subst hrun
        rw [hQ]
        exact W.iret (v := (-1)) hx hb hr (fun t ht hW => ⟨⟨(-1), (), rfl, rfl, by rw [ht]; exact hP, hD⟩, hS.F ht⟩) hS.2.2 dX5_turn_19
-- SkyListeners.lend
def f_X5_lend (d_now_lendings_most : Int32) (d_now_lendings_many : Int32) (d_now_lendings_cells : Nat → Int32) (d_now_mounts_many : Int32) (d_now_undos_most : Int32) (d_now_undos_many : Int32) (d_now_undos_cells : Nat → Int32) (d_told_askers_many : Int32) (x1 : Int32) (x2 : Int32) (x3 : Int32) : Option (Int32 × Int32 × (Nat → Int32) × Int32 × (Nat → Int32)) := (if (f_X5_isDish d_now_mounts_many x1) = 0 then (some ((-1), d_now_lendings_many, d_now_lendings_cells, d_now_undos_many, d_now_undos_cells)) else (if (f_X5_isHour x2) = 0 then (some ((-1), d_now_lendings_many, d_now_lendings_cells, d_now_undos_many, d_now_undos_cells)) else (if (f_X5_isAsker d_told_askers_many x3) = 0 then (some ((-1), d_now_lendings_many, d_now_lendings_cells, d_now_undos_many, d_now_undos_cells)) else (if (f_X2_isFull d_now_lendings_most d_now_lendings_many) = 0 then ((f_X0_remember d_now_undos_most d_now_undos_many d_now_undos_cells (-1) 0).bind fun q61 => (some ((f_X2_add d_now_lendings_most d_now_lendings_many d_now_lendings_cells x1 x2 x3 0).1, (f_X2_add d_now_lendings_most d_now_lendings_many d_now_lendings_cells x1 x2 x3 0).1, (f_X2_add d_now_lendings_most d_now_lendings_many d_now_lendings_cells x1 x2 x3 0).2, q61.1, q61.2))) else (some ((-3), d_now_lendings_many, d_now_lendings_cells, d_now_undos_many, d_now_undos_cells))))))
set_option maxHeartbeats 4000000 in
set_option maxRecDepth 100000 in
theorem c_X5_lend (l : Launch) (dC : Nat → ClassId) (dI : Nat → Nat → Nat) (cI cZ : ClassId) (sz : Nat) (p_draft p_imageOne p_imageZero p_now p_now_lendings p_now_lendings_cells p_now_log p_now_mounts p_now_mounts_cells p_now_undos p_now_undos_cells p_placesOf p_reader p_slots p_text p_this p_told p_told_askers p_told_askers_cells p_told_dishes p_told_noises p_told_speakers : Nat) (d_keptImages : Int32) (d_traced : Int64) (d_now_lendings_most : Int32) (d_now_lendings_many : Int32) (d_now_lendings_cells : Nat → Int32) (d_now_mounts_most : Int32) (d_now_mounts_many : Int32) (d_now_undos_most : Int32) (d_now_undos_many : Int32) (d_now_undos_cells : Nat → Int32) (d_told_askers_most : Int32) (d_told_askers_many : Int32) (x1 : Int32) (x2 : Int32) (x3 : Int32) (out : Int32 × Int32 × (Nat → Int32) × Int32 × (Nat → Int32)) (hrun : f_X5_lend d_now_lendings_most d_now_lendings_many d_now_lendings_cells d_now_mounts_many d_now_undos_most d_now_undos_many d_now_undos_cells d_told_askers_many x1 x2 x3 = some out) : Met l yX5_lend wsX5_lend ({ frames := 4, cells := 0, slots := 0, locals := 91 } : Room) (va_Pc [.ref p_this, .int x1, .int x2, .int x3] (PC dC dI cI cZ sz ([(p_this, .inr (5, [.ref p_text, .ref p_reader, .ref p_told, .ref p_draft, .ref p_now, .ref p_imageZero, .ref p_imageOne, .ref p_slots, .ref p_placesOf, .int d_keptImages, .long d_traced])), (p_now, .inr (0, [.ref p_now_mounts, .ref p_now_lendings, .ref p_now_log, .ref p_now_undos])), (p_now_lendings, .inr (2, [.int d_now_lendings_most, .ref p_now_lendings_cells, .int d_now_lendings_many])), (p_now_lendings_cells, .inl (cI, 48, .inl d_now_lendings_cells)), (p_now_mounts, .inr (2, [.int d_now_mounts_most, .ref p_now_mounts_cells, .int d_now_mounts_many])), (p_now_undos, .inr (2, [.int d_now_undos_most, .ref p_now_undos_cells, .int d_now_undos_many])), (p_now_undos_cells, .inl (cI, 48, .inl d_now_undos_cells)), (p_told, .inr (4, [.ref p_told_dishes, .ref p_told_speakers, .ref p_told_noises, .ref p_told_askers])), (p_told_askers, .inr (2, [.int d_told_askers_most, .ref p_told_askers_cells, .int d_told_askers_many]))] : va_W))) (va_Qi (fun r (_ : Unit) => r = out.1) (fun _ t => va_P (dC, dI) vwCl [(p_this, .inr (5, [.ref p_text, .ref p_reader, .ref p_told, .ref p_draft, .ref p_now, .ref p_imageZero, .ref p_imageOne, .ref p_slots, .ref p_placesOf, .int d_keptImages, .long d_traced])), (p_now, .inr (0, [.ref p_now_mounts, .ref p_now_lendings, .ref p_now_log, .ref p_now_undos])), (p_now_lendings, .inr (2, [.int d_now_lendings_most, .ref p_now_lendings_cells, .int out.2.1])), (p_now_lendings_cells, .inl (cI, 48, .inl out.2.2.1)), (p_now_mounts, .inr (2, [.int d_now_mounts_most, .ref p_now_mounts_cells, .int d_now_mounts_many])), (p_now_undos, .inr (2, [.int d_now_undos_most, .ref p_now_undos_cells, .int out.2.2.2.1])), (p_now_undos_cells, .inl (cI, 48, .inl out.2.2.2.2)), (p_told, .inr (4, [.ref p_told_dishes, .ref p_told_speakers, .ref p_told_noises, .ref p_told_askers])), (p_told_askers, .inr (2, [.int d_told_askers_most, .ref p_told_askers_cells, .int d_told_askers_many]))] t.heap ∧ va_D (va_A ([(p_this, .inr (5, [.ref p_text, .ref p_reader, .ref p_told, .ref p_draft, .ref p_now, .ref p_imageZero, .ref p_imageOne, .ref p_slots, .ref p_placesOf, .int d_keptImages, .long d_traced])), (p_now, .inr (0, [.ref p_now_mounts, .ref p_now_lendings, .ref p_now_log, .ref p_now_undos])), (p_now_lendings, .inr (2, [.int d_now_lendings_most, .ref p_now_lendings_cells, .int d_now_lendings_many])), (p_now_lendings_cells, .inl (cI, 48, .inl d_now_lendings_cells)), (p_now_mounts, .inr (2, [.int d_now_mounts_most, .ref p_now_mounts_cells, .int d_now_mounts_many])), (p_now_undos, .inr (2, [.int d_now_undos_most, .ref p_now_undos_cells, .int d_now_undos_many])), (p_now_undos_cells, .inl (cI, 48, .inl d_now_undos_cells)), (p_told, .inr (4, [.ref p_told_dishes, .ref p_told_speakers, .ref p_told_noises, .ref p_told_askers])), (p_told_askers, .inr (2, [.int d_told_askers_most, .ref p_told_askers_cells, .int d_told_askers_many]))] : va_W) sz) [(p_this, .inr (5, [.ref p_text, .ref p_reader, .ref p_told, .ref p_draft, .ref p_now, .ref p_imageZero, .ref p_imageOne, .ref p_slots, .ref p_placesOf, .int d_keptImages, .long d_traced])), (p_now, .inr (0, [.ref p_now_mounts, .ref p_now_lendings, .ref p_now_log, .ref p_now_undos])), (p_now_lendings, .inr (2, [.int d_now_lendings_most, .ref p_now_lendings_cells, .int out.2.1])), (p_now_lendings_cells, .inl (cI, 48, .inl out.2.2.1)), (p_now_mounts, .inr (2, [.int d_now_mounts_most, .ref p_now_mounts_cells, .int d_now_mounts_many])), (p_now_undos, .inr (2, [.int d_now_undos_most, .ref p_now_undos_cells, .int out.2.2.2.1])), (p_now_undos_cells, .inl (cI, 48, .inl out.2.2.2.2)), (p_told, .inr (4, [.ref p_told_dishes, .ref p_told_speakers, .ref p_told_noises, .ref p_told_askers])), (p_told_askers, .inr (2, [.int d_told_askers_most, .ref p_told_askers_cells, .int d_told_askers_many]))]) (va_A ([(p_this, .inr (5, [.ref p_text, .ref p_reader, .ref p_told, .ref p_draft, .ref p_now, .ref p_imageZero, .ref p_imageOne, .ref p_slots, .ref p_placesOf, .int d_keptImages, .long d_traced])), (p_now, .inr (0, [.ref p_now_mounts, .ref p_now_lendings, .ref p_now_log, .ref p_now_undos])), (p_now_lendings, .inr (2, [.int d_now_lendings_most, .ref p_now_lendings_cells, .int d_now_lendings_many])), (p_now_lendings_cells, .inl (cI, 48, .inl d_now_lendings_cells)), (p_now_mounts, .inr (2, [.int d_now_mounts_most, .ref p_now_mounts_cells, .int d_now_mounts_many])), (p_now_undos, .inr (2, [.int d_now_undos_most, .ref p_now_undos_cells, .int d_now_undos_many])), (p_now_undos_cells, .inl (cI, 48, .inl d_now_undos_cells)), (p_told, .inr (4, [.ref p_told_dishes, .ref p_told_speakers, .ref p_told_noises, .ref p_told_askers])), (p_told_askers, .inr (2, [.int d_told_askers_most, .ref p_told_askers_cells, .int d_told_askers_many]))] : va_W) sz)) 0 0 (va_A ([(p_this, .inr (5, [.ref p_text, .ref p_reader, .ref p_told, .ref p_draft, .ref p_now, .ref p_imageZero, .ref p_imageOne, .ref p_slots, .ref p_placesOf, .int d_keptImages, .long d_traced])), (p_now, .inr (0, [.ref p_now_mounts, .ref p_now_lendings, .ref p_now_log, .ref p_now_undos])), (p_now_lendings, .inr (2, [.int d_now_lendings_most, .ref p_now_lendings_cells, .int d_now_lendings_many])), (p_now_lendings_cells, .inl (cI, 48, .inl d_now_lendings_cells)), (p_now_mounts, .inr (2, [.int d_now_mounts_most, .ref p_now_mounts_cells, .int d_now_mounts_many])), (p_now_undos, .inr (2, [.int d_now_undos_most, .ref p_now_undos_cells, .int d_now_undos_many])), (p_now_undos_cells, .inl (cI, 48, .inl d_now_undos_cells)), (p_told, .inr (4, [.ref p_told_dishes, .ref p_told_speakers, .ref p_told_noises, .ref p_told_askers])), (p_told_askers, .inr (2, [.int d_told_askers_most, .ref p_told_askers_cells, .int d_told_askers_many]))] : va_W) sz) := by
  refine Met.ofW (cc := cX5_lend) (maxL := 4) (ret := (some .int)) (by decide) rfl ?_
  intro p e s m args below meth c s₁ B hml hv
  obtain ⟨rfl, hsz, hP, hK, hD0, hN⟩ := hv
  have hx := B.exec
  have hb := B.bytes
  have hr := B.returns
  have hts := atoms_spec (ws := wsX5_lend) B.pre
  have hown : s.vm.findClass RX5 = some m.cls := findClass_of_methodNamed B.named
  have hlocks := B.notSynchronized
  subst hsz
  have hD := hD0.self (sz := s.heap.size)
  generalize hAe : va_A ([(p_this, .inr (5, [.ref p_text, .ref p_reader, .ref p_told, .ref p_draft, .ref p_now, .ref p_imageZero, .ref p_imageOne, .ref p_slots, .ref p_placesOf, .int d_keptImages, .long d_traced])), (p_now, .inr (0, [.ref p_now_mounts, .ref p_now_lendings, .ref p_now_log, .ref p_now_undos])), (p_now_lendings, .inr (2, [.int d_now_lendings_most, .ref p_now_lendings_cells, .int d_now_lendings_many])), (p_now_lendings_cells, .inl (cI, 48, .inl d_now_lendings_cells)), (p_now_mounts, .inr (2, [.int d_now_mounts_most, .ref p_now_mounts_cells, .int d_now_mounts_many])), (p_now_undos, .inr (2, [.int d_now_undos_most, .ref p_now_undos_cells, .int d_now_undos_many])), (p_now_undos_cells, .inl (cI, 48, .inl d_now_undos_cells)), (p_told, .inr (4, [.ref p_told_dishes, .ref p_told_speakers, .ref p_told_noises, .ref p_told_askers])), (p_told_askers, .inr (2, [.int d_told_askers_most, .ref p_told_askers_cells, .int d_told_askers_many]))] : va_W) s.heap.size = A at hD ⊢
  have hA : ∀ q : Nat, s.heap.size ≤ q → A q := fun q h => by rw [← hAe]; exact Or.inr h
  have hS : va_S A s.heap s.heap [] := va_S.rf
  refine W_abs (fun Q hQ => ?_)
  have hl := lv_entry ([.ref p_this, .int x1, .int x2, .int x3]) (n := 4) (Nat.le_of_ble_eq_true rfl)
  rw [lg_entry_eq]
  generalize (lg_sl ([.ref p_this, .int x1, .int x2, .int x3]) ++ List.replicate (4 - (lg_sl ([.ref p_this, .int x1, .int x2, .int x3])).length) Slot.unset).toArray = ls at hl ⊢
  have hl : lv_has ls 4 [(0, .ref p_this), (1, .int x1), (2, .int x2), (3, .int x3)] := hl
  rw [f_X5_lend] at hrun
  refine W_start (ws := [(p_this, .inr (5, [.ref p_text, .ref p_reader, .ref p_told, .ref p_draft, .ref p_now, .ref p_imageZero, .ref p_imageOne, .ref p_slots, .ref p_placesOf, .int d_keptImages, .long d_traced])), (p_now, .inr (0, [.ref p_now_mounts, .ref p_now_lendings, .ref p_now_log, .ref p_now_undos])), (p_now_lendings, .inr (2, [.int d_now_lendings_most, .ref p_now_lendings_cells, .int d_now_lendings_many])), (p_now_lendings_cells, .inl (cI, 48, .inl d_now_lendings_cells)), (p_now_mounts, .inr (2, [.int d_now_mounts_most, .ref p_now_mounts_cells, .int d_now_mounts_many])), (p_now_undos, .inr (2, [.int d_now_undos_most, .ref p_now_undos_cells, .int d_now_undos_many])), (p_now_undos_cells, .inl (cI, 48, .inl d_now_undos_cells)), (p_told, .inr (4, [.ref p_told_dishes, .ref p_told_speakers, .ref p_told_noises, .ref p_told_askers])), (p_told_askers, .inr (2, [.int d_told_askers_most, .ref p_told_askers_cells, .int d_told_askers_many]))]) hP hS (fun H locs hP hS => ?_)
  have iwX0 : ∀ w ∈ wsX00, w ∈ wsX5_lend := by decide +kernel
  have iwX2 : ∀ w ∈ wsX20, w ∈ wsX5_lend := by decide +kernel
  have iwX5 : ∀ w ∈ wsX50, w ∈ wsX5_lend := by decide +kernel
  refine lv_aload_n hx hb dX5_lend_0 rfl (lv_at hl 0 rfl) ?_
  refine lv_iload_n hx hb dX5_lend_1 rfl (lv_at hl 1 rfl) ?_
  have hPc : va_P (dC, dI) vwCl [(p_this, .inr (5, [.ref p_text, .ref p_reader, .ref p_told, .ref p_draft, .ref p_now, .ref p_imageZero, .ref p_imageOne, .ref p_slots, .ref p_placesOf, .int d_keptImages, .long d_traced])), (p_now, .inr (0, [.ref p_now_mounts, .ref p_now_lendings, .ref p_now_log, .ref p_now_undos])), (p_now_mounts, .inr (2, [.int d_now_mounts_most, .ref p_now_mounts_cells, .int d_now_mounts_many]))] H := hP.sub [0, 1, 4] rfl
  have hDc : va_D A [(p_this, .inr (5, [.ref p_text, .ref p_reader, .ref p_told, .ref p_draft, .ref p_now, .ref p_imageZero, .ref p_imageOne, .ref p_slots, .ref p_placesOf, .int d_keptImages, .long d_traced])), (p_now, .inr (0, [.ref p_now_mounts, .ref p_now_lendings, .ref p_now_log, .ref p_now_undos])), (p_now_mounts, .inr (2, [.int d_now_mounts_most, .ref p_now_mounts_cells, .int d_now_mounts_many]))] := hD.sub [0, 1, 4] (by decide) rfl
  have hFc := va_free (wc := [(p_this, .inr (5, [.ref p_text, .ref p_reader, .ref p_told, .ref p_draft, .ref p_now, .ref p_imageZero, .ref p_imageOne, .ref p_slots, .ref p_placesOf, .int d_keptImages, .long d_traced])), (p_now, .inr (0, [.ref p_now_mounts, .ref p_now_lendings, .ref p_now_log, .ref p_now_undos])), (p_now_mounts, .inr (2, [.int d_now_mounts_most, .ref p_now_mounts_cells, .int d_now_mounts_many]))]) hD hS hA [0, 1, 4] rfl
  refine va_calli (va_runV (As := [.int x1]) (rest := []) ⟨hx, hb, hml, hown, hts⟩ (c_X5_isDish l dC dI cI cZ H.size p_draft p_imageOne p_imageZero p_now p_now_lendings p_now_log p_now_mounts p_now_mounts_cells p_now_undos p_placesOf p_reader p_slots p_text p_this p_told d_keptImages d_traced d_now_mounts_most d_now_mounts_many x1 (f_X5_isDish d_now_mounts_many x1) rfl) (cwV 1 hts gX5_lend_X5_isDish rfl rfl rfl (by decide +kernel) ⟨Nat.le_of_ble_eq_true rfl, Nat.le_of_ble_eq_true rfl⟩) ⟨fun a U g mk q => ⟨q.1, PC.mv q.2⟩, va_recv hK hP (ci := 5) (q0 := 0) rfl rfl, fun U hU hW => ⟨rfl, PC.of hU hW hPc hK hDc hN⟩⟩ rfl rfl hl.1 rfl (lv_room (Nat.le_of_ble_eq_true rfl)) dX5_lend_2 ⟨Nat.zero_le _, Nat.zero_le _⟩) hS (fun q _ h => hFc q h) hFc (fun r_2 u t H1 locs ht hvm hw hB hz1 hk1 hS => ?_)
  obtain ⟨hP1, hD1⟩ := hB
  try dsimp only at hw
  rw [hw]
  rw [ht] at hP1
  have hP : va_P (dC, dI) vwCl [(p_this, .inr (5, [.ref p_text, .ref p_reader, .ref p_told, .ref p_draft, .ref p_now, .ref p_imageZero, .ref p_imageOne, .ref p_slots, .ref p_placesOf, .int d_keptImages, .long d_traced])), (p_now, .inr (0, [.ref p_now_mounts, .ref p_now_lendings, .ref p_now_log, .ref p_now_undos])), (p_now_lendings, .inr (2, [.int d_now_lendings_most, .ref p_now_lendings_cells, .int d_now_lendings_many])), (p_now_lendings_cells, .inl (cI, 48, .inl d_now_lendings_cells)), (p_now_mounts, .inr (2, [.int d_now_mounts_most, .ref p_now_mounts_cells, .int d_now_mounts_many])), (p_now_undos, .inr (2, [.int d_now_undos_most, .ref p_now_undos_cells, .int d_now_undos_many])), (p_now_undos_cells, .inl (cI, 48, .inl d_now_undos_cells)), (p_told, .inr (4, [.ref p_told_dishes, .ref p_told_speakers, .ref p_told_noises, .ref p_told_askers])), (p_told_askers, .inr (2, [.int d_told_askers_most, .ref p_told_askers_cells, .int d_told_askers_many]))] H1 := join_ro hP hD [0, 1, 4] rfl hk1 hP1
  clear hPc hDc hFc hk1 hz1 hP1 hD1 ht hvm
  generalize H1 = H at hP hS ⊢
  refine lv_if_eq (tgt := 23) hx hb dX5_lend_5 (by decide) (fun c_5 => ?_) (fun c_5 => ?_)
  · rw [if_pos c_5] at hrun
    refine lv_iconst (v := (-1)) hx hb dX5_lend_23 (by decide) ?_
    have hrun := Option.some.inj hrun
    subst hrun
    rw [hQ]
    exact W.iret (v := (-1)) hx hb hr (fun t ht hW => ⟨⟨(-1), (), rfl, rfl, by rw [ht]; exact hP, hD⟩, hS.F ht⟩) hS.2.2 dX5_lend_24
  · rw [if_neg c_5] at hrun
    refine lv_iload_n hx hb dX5_lend_8 rfl (lv_at hl 2 rfl) ?_
    have hPc : va_P (dC, dI) vwCl [] H := hP.sub [] rfl
    have hDc : va_D A [] := hD.sub [] (by decide) rfl
    have hFc := va_free (wc := []) hD hS hA [] rfl
    refine va_calli (va_runS (As := [.int x2]) (rest := []) ⟨hx, hb, hml, hown, hts⟩ (c_X5_isHour l dC dI cI cZ H.size x2 (f_X5_isHour x2) rfl) (va_cwS 1 hts gX5_lend_X5_isHour rfl rfl rfl (by decide +kernel) ⟨Nat.le_of_ble_eq_true rfl, Nat.le_of_ble_eq_true rfl⟩) ⟨fun a U g mk q => ⟨q.1, PC.mv q.2⟩, fun U hU hW => ⟨rfl, PC.of hU hW hPc hK hDc hN⟩⟩ rfl rfl hl.1 rfl (lv_room (Nat.le_of_ble_eq_true rfl)) dX5_lend_9 ⟨Nat.zero_le _, Nat.zero_le _⟩) hS (fun q _ h => hFc q h) hFc (fun r_9 u t H1 locs ht hvm hw hB hz1 hk1 hS => ?_)
    obtain ⟨hP1, hD1⟩ := hB
    try dsimp only at hw
    rw [hw]
    rw [ht] at hP1
    have hP : va_P (dC, dI) vwCl [(p_this, .inr (5, [.ref p_text, .ref p_reader, .ref p_told, .ref p_draft, .ref p_now, .ref p_imageZero, .ref p_imageOne, .ref p_slots, .ref p_placesOf, .int d_keptImages, .long d_traced])), (p_now, .inr (0, [.ref p_now_mounts, .ref p_now_lendings, .ref p_now_log, .ref p_now_undos])), (p_now_lendings, .inr (2, [.int d_now_lendings_most, .ref p_now_lendings_cells, .int d_now_lendings_many])), (p_now_lendings_cells, .inl (cI, 48, .inl d_now_lendings_cells)), (p_now_mounts, .inr (2, [.int d_now_mounts_most, .ref p_now_mounts_cells, .int d_now_mounts_many])), (p_now_undos, .inr (2, [.int d_now_undos_most, .ref p_now_undos_cells, .int d_now_undos_many])), (p_now_undos_cells, .inl (cI, 48, .inl d_now_undos_cells)), (p_told, .inr (4, [.ref p_told_dishes, .ref p_told_speakers, .ref p_told_noises, .ref p_told_askers])), (p_told_askers, .inr (2, [.int d_told_askers_most, .ref p_told_askers_cells, .int d_told_askers_many]))] H1 := join_ro hP hD [] rfl hk1 hP1
    clear hPc hDc hFc hk1 hz1 hP1 hD1 ht hvm
    generalize H1 = H at hP hS ⊢
    refine lv_if_eq (tgt := 23) hx hb dX5_lend_12 (by decide) (fun c_12 => ?_) (fun c_12 => ?_)
    · rw [if_pos c_12] at hrun
      refine lv_iconst (v := (-1)) hx hb dX5_lend_23 (by decide) ?_
      have hrun := Option.some.inj hrun
      subst hrun
      rw [hQ]
      exact W.iret (v := (-1)) hx hb hr (fun t ht hW => ⟨⟨(-1), (), rfl, rfl, by rw [ht]; exact hP, hD⟩, hS.F ht⟩) hS.2.2 dX5_lend_24
    · rw [if_neg c_12] at hrun
      refine lv_aload_n hx hb dX5_lend_15 rfl (lv_at hl 0 rfl) ?_
      refine lv_iload_n hx hb dX5_lend_16 rfl (lv_at hl 3 rfl) ?_
      have hPc : va_P (dC, dI) vwCl [(p_this, .inr (5, [.ref p_text, .ref p_reader, .ref p_told, .ref p_draft, .ref p_now, .ref p_imageZero, .ref p_imageOne, .ref p_slots, .ref p_placesOf, .int d_keptImages, .long d_traced])), (p_told, .inr (4, [.ref p_told_dishes, .ref p_told_speakers, .ref p_told_noises, .ref p_told_askers])), (p_told_askers, .inr (2, [.int d_told_askers_most, .ref p_told_askers_cells, .int d_told_askers_many]))] H := hP.sub [0, 7, 8] rfl
      have hDc : va_D A [(p_this, .inr (5, [.ref p_text, .ref p_reader, .ref p_told, .ref p_draft, .ref p_now, .ref p_imageZero, .ref p_imageOne, .ref p_slots, .ref p_placesOf, .int d_keptImages, .long d_traced])), (p_told, .inr (4, [.ref p_told_dishes, .ref p_told_speakers, .ref p_told_noises, .ref p_told_askers])), (p_told_askers, .inr (2, [.int d_told_askers_most, .ref p_told_askers_cells, .int d_told_askers_many]))] := hD.sub [0, 7, 8] (by decide) rfl
      have hFc := va_free (wc := [(p_this, .inr (5, [.ref p_text, .ref p_reader, .ref p_told, .ref p_draft, .ref p_now, .ref p_imageZero, .ref p_imageOne, .ref p_slots, .ref p_placesOf, .int d_keptImages, .long d_traced])), (p_told, .inr (4, [.ref p_told_dishes, .ref p_told_speakers, .ref p_told_noises, .ref p_told_askers])), (p_told_askers, .inr (2, [.int d_told_askers_most, .ref p_told_askers_cells, .int d_told_askers_many]))]) hD hS hA [0, 7, 8] rfl
      refine va_calli (va_runV (As := [.int x3]) (rest := []) ⟨hx, hb, hml, hown, hts⟩ (c_X5_isAsker l dC dI cI cZ H.size p_draft p_imageOne p_imageZero p_now p_placesOf p_reader p_slots p_text p_this p_told p_told_askers p_told_askers_cells p_told_dishes p_told_noises p_told_speakers d_keptImages d_traced d_told_askers_most d_told_askers_many x3 (f_X5_isAsker d_told_askers_many x3) rfl) (cwV 1 hts gX5_lend_X5_isAsker rfl rfl rfl (by decide +kernel) ⟨Nat.le_of_ble_eq_true rfl, Nat.le_of_ble_eq_true rfl⟩) ⟨fun a U g mk q => ⟨q.1, PC.mv q.2⟩, va_recv hK hP (ci := 5) (q0 := 0) rfl rfl, fun U hU hW => ⟨rfl, PC.of hU hW hPc hK hDc hN⟩⟩ rfl rfl hl.1 rfl (lv_room (Nat.le_of_ble_eq_true rfl)) dX5_lend_17 ⟨Nat.zero_le _, Nat.zero_le _⟩) hS (fun q _ h => hFc q h) hFc (fun r_17 u t H1 locs ht hvm hw hB hz1 hk1 hS => ?_)
      obtain ⟨hP1, hD1⟩ := hB
      try dsimp only at hw
      rw [hw]
      rw [ht] at hP1
      have hP : va_P (dC, dI) vwCl [(p_this, .inr (5, [.ref p_text, .ref p_reader, .ref p_told, .ref p_draft, .ref p_now, .ref p_imageZero, .ref p_imageOne, .ref p_slots, .ref p_placesOf, .int d_keptImages, .long d_traced])), (p_now, .inr (0, [.ref p_now_mounts, .ref p_now_lendings, .ref p_now_log, .ref p_now_undos])), (p_now_lendings, .inr (2, [.int d_now_lendings_most, .ref p_now_lendings_cells, .int d_now_lendings_many])), (p_now_lendings_cells, .inl (cI, 48, .inl d_now_lendings_cells)), (p_now_mounts, .inr (2, [.int d_now_mounts_most, .ref p_now_mounts_cells, .int d_now_mounts_many])), (p_now_undos, .inr (2, [.int d_now_undos_most, .ref p_now_undos_cells, .int d_now_undos_many])), (p_now_undos_cells, .inl (cI, 48, .inl d_now_undos_cells)), (p_told, .inr (4, [.ref p_told_dishes, .ref p_told_speakers, .ref p_told_noises, .ref p_told_askers])), (p_told_askers, .inr (2, [.int d_told_askers_most, .ref p_told_askers_cells, .int d_told_askers_many]))] H1 := join_ro hP hD [0, 7, 8] rfl hk1 hP1
      clear hPc hDc hFc hk1 hz1 hP1 hD1 ht hvm
      generalize H1 = H at hP hS ⊢
      refine lv_if_ne (tgt := 25) hx hb dX5_lend_20 (by decide) (fun c_20 => ?_) (fun c_20 => ?_)
      · rw [if_neg c_20] at hrun
        refine lv_aload_n hx hb dX5_lend_25 rfl (lv_at hl 0 rfl) ?_
        refine va_get (D := (dC, dI)) (ci := 5) (v := .ref p_now) (C := RX5) (T := TX5) (N := 11) hx hb hts iwX5 hown hK hP 0 rfl rfl 4 (by decide) (hts (.fieldLink RX5 36 "SkyListeners" "now" "LSkyListeners$Now;") (by decide +kernel)) (fun _ h9 => h9) rfl dX5_lend_26 ?_
        refine va_get (D := (dC, dI)) (ci := 0) (v := .ref p_now_lendings) (C := RX0) (T := TX0) (N := 4) hx hb hts iwX0 hown hK hP 1 rfl rfl 1 (by decide) (hts (.fieldLink RX5 126 "SkyListeners$Now" "lendings" "LSkyListeners$Rows;") (by decide +kernel)) (fun _ h9 => h9) rfl dX5_lend_29 ?_
        have hPc : va_P (dC, dI) vwCl [(p_now_lendings, .inr (2, [.int d_now_lendings_most, .ref p_now_lendings_cells, .int d_now_lendings_many]))] H := hP.sub [2] rfl
        have hDc : va_D A [(p_now_lendings, .inr (2, [.int d_now_lendings_most, .ref p_now_lendings_cells, .int d_now_lendings_many]))] := hD.sub [2] (by decide) rfl
        have hFc := va_free (wc := [(p_now_lendings, .inr (2, [.int d_now_lendings_most, .ref p_now_lendings_cells, .int d_now_lendings_many]))]) hD hS hA [2] rfl
        refine va_calli (va_runV (As := []) (rest := []) ⟨hx, hb, hml, hown, hts⟩ (c_X2_isFull l dC dI cI cZ H.size p_now_lendings_cells p_now_lendings d_now_lendings_most d_now_lendings_many (f_X2_isFull d_now_lendings_most d_now_lendings_many) rfl) (cwV 0 hts gX5_lend_X2_isFull rfl rfl rfl (by decide +kernel) ⟨Nat.le_of_ble_eq_true rfl, Nat.le_of_ble_eq_true rfl⟩) ⟨fun a U g mk q => ⟨q.1, PC.mv q.2⟩, va_recv hK hP (ci := 2) (q0 := 2) rfl rfl, fun U hU hW => ⟨rfl, PC.of hU hW hPc hK hDc hN⟩⟩ rfl rfl hl.1 rfl (lv_room (Nat.le_of_ble_eq_true rfl)) dX5_lend_32 ⟨Nat.zero_le _, Nat.zero_le _⟩) hS (fun q _ h => hFc q h) hFc (fun r_32 u t H1 locs ht hvm hw hB hz1 hk1 hS => ?_)
        obtain ⟨hP1, hD1⟩ := hB
        try dsimp only at hw
        rw [hw]
        rw [ht] at hP1
        have hP : va_P (dC, dI) vwCl [(p_this, .inr (5, [.ref p_text, .ref p_reader, .ref p_told, .ref p_draft, .ref p_now, .ref p_imageZero, .ref p_imageOne, .ref p_slots, .ref p_placesOf, .int d_keptImages, .long d_traced])), (p_now, .inr (0, [.ref p_now_mounts, .ref p_now_lendings, .ref p_now_log, .ref p_now_undos])), (p_now_lendings, .inr (2, [.int d_now_lendings_most, .ref p_now_lendings_cells, .int d_now_lendings_many])), (p_now_lendings_cells, .inl (cI, 48, .inl d_now_lendings_cells)), (p_now_mounts, .inr (2, [.int d_now_mounts_most, .ref p_now_mounts_cells, .int d_now_mounts_many])), (p_now_undos, .inr (2, [.int d_now_undos_most, .ref p_now_undos_cells, .int d_now_undos_many])), (p_now_undos_cells, .inl (cI, 48, .inl d_now_undos_cells)), (p_told, .inr (4, [.ref p_told_dishes, .ref p_told_speakers, .ref p_told_noises, .ref p_told_askers])), (p_told_askers, .inr (2, [.int d_told_askers_most, .ref p_told_askers_cells, .int d_told_askers_many]))] H1 := join_ro hP hD [2] rfl hk1 hP1
        clear hPc hDc hFc hk1 hz1 hP1 hD1 ht hvm
        generalize H1 = H at hP hS ⊢
        refine lv_if_eq (tgt := 41) hx hb dX5_lend_35 (by decide) (fun c_35 => ?_) (fun c_35 => ?_)
        · rw [if_pos c_35] at hrun
          refine lv_aload_n hx hb dX5_lend_41 rfl (lv_at hl 0 rfl) ?_
          refine va_get (D := (dC, dI)) (ci := 5) (v := .ref p_now) (C := RX5) (T := TX5) (N := 11) hx hb hts iwX5 hown hK hP 0 rfl rfl 4 (by decide) (hts (.fieldLink RX5 36 "SkyListeners" "now" "LSkyListeners$Now;") (by decide +kernel)) (fun _ h9 => h9) rfl dX5_lend_42 ?_
          refine va_get (D := (dC, dI)) (ci := 0) (v := .ref p_now_lendings) (C := RX0) (T := TX0) (N := 4) hx hb hts iwX0 hown hK hP 1 rfl rfl 1 (by decide) (hts (.fieldLink RX5 126 "SkyListeners$Now" "lendings" "LSkyListeners$Rows;") (by decide +kernel)) (fun _ h9 => h9) rfl dX5_lend_45 ?_
          refine lv_iload_n hx hb dX5_lend_48 rfl (lv_at hl 1 rfl) ?_
          refine lv_iload_n hx hb dX5_lend_49 rfl (lv_at hl 2 rfl) ?_
          refine lv_iload_n hx hb dX5_lend_50 rfl (lv_at hl 3 rfl) ?_
          refine lv_iconst (v := 0) hx hb dX5_lend_51 (by decide) ?_
          have hPc : va_P (dC, dI) vwCl [(p_now_lendings, .inr (2, [.int d_now_lendings_most, .ref p_now_lendings_cells, .int d_now_lendings_many])), (p_now_lendings_cells, .inl (cI, 48, .inl d_now_lendings_cells))] H := hP.sub [2, 3] rfl
          have hDc : va_D A [(p_now_lendings, .inr (2, [.int d_now_lendings_most, .ref p_now_lendings_cells, .int d_now_lendings_many])), (p_now_lendings_cells, .inl (cI, 48, .inl d_now_lendings_cells))] := hD.sub [2, 3] (by decide) rfl
          have hFc := va_free (wc := [(p_now_lendings, .inr (2, [.int d_now_lendings_most, .ref p_now_lendings_cells, .int d_now_lendings_many])), (p_now_lendings_cells, .inl (cI, 48, .inl d_now_lendings_cells))]) hD hS hA [2, 3] rfl
          refine va_callv (va_runV (As := [.int x1, .int x2, .int x3, .int 0]) (rest := []) ⟨hx, hb, hml, hown, hts⟩ (c_X2_add l dC dI cI cZ H.size p_now_lendings_cells p_now_lendings d_now_lendings_most d_now_lendings_many d_now_lendings_cells x1 x2 x3 0 (f_X2_add d_now_lendings_most d_now_lendings_many d_now_lendings_cells x1 x2 x3 0) rfl) (cwV 4 hts gX5_lend_X2_add rfl rfl rfl (by decide +kernel) ⟨Nat.le_of_ble_eq_true rfl, Nat.le_of_ble_eq_true rfl⟩) ⟨fun a U g mk q => ⟨q.1, PC.mv q.2⟩, va_recv hK hP (ci := 2) (q0 := 2) rfl rfl, fun U hU hW => ⟨rfl, PC.of hU hW hPc hK hDc hN⟩⟩ rfl rfl hl.1 rfl (lv_room (Nat.le_of_ble_eq_true rfl)) dX5_lend_52 ⟨Nat.zero_le _, Nat.zero_le _⟩) hS (fun q _ h => hFc q h) hFc (fun u t H1 locs ht hvm hw hB hz1 hk1 hS => ?_)
          obtain ⟨hP1, hD1⟩ := hB
          rw [ht] at hP1
          obtain ⟨hP, hD⟩ := va_join (wr := [(p_this, .inr (5, [.ref p_text, .ref p_reader, .ref p_told, .ref p_draft, .ref p_now, .ref p_imageZero, .ref p_imageOne, .ref p_slots, .ref p_placesOf, .int d_keptImages, .long d_traced])), (p_now, .inr (0, [.ref p_now_mounts, .ref p_now_lendings, .ref p_now_log, .ref p_now_undos])), (p_now_mounts, .inr (2, [.int d_now_mounts_most, .ref p_now_mounts_cells, .int d_now_mounts_many])), (p_now_undos, .inr (2, [.int d_now_undos_most, .ref p_now_undos_cells, .int d_now_undos_many])), (p_now_undos_cells, .inl (cI, 48, .inl d_now_undos_cells)), (p_told, .inr (4, [.ref p_told_dishes, .ref p_told_speakers, .ref p_told_noises, .ref p_told_askers])), (p_told_askers, .inr (2, [.int d_told_askers_most, .ref p_told_askers_cells, .int d_told_askers_many]))]) (w1 := [(p_now_lendings, .inr (2, [.int d_now_lendings_most, .ref p_now_lendings_cells, .int ((f_X2_add d_now_lendings_most d_now_lendings_many d_now_lendings_cells x1 x2 x3 0).1)])), (p_now_lendings_cells, .inl (cI, 48, .inl ((f_X2_add d_now_lendings_most d_now_lendings_many d_now_lendings_cells x1 x2 x3 0).2)))]) hP hD [2, 3] [0, 1, 4, 5, 6, 7, 8] rfl rfl (by decide) (by decide) hk1 hFc hP1 hD1
          have hP : va_P (dC, dI) vwCl [(p_this, .inr (5, [.ref p_text, .ref p_reader, .ref p_told, .ref p_draft, .ref p_now, .ref p_imageZero, .ref p_imageOne, .ref p_slots, .ref p_placesOf, .int d_keptImages, .long d_traced])), (p_now, .inr (0, [.ref p_now_mounts, .ref p_now_lendings, .ref p_now_log, .ref p_now_undos])), (p_now_lendings, .inr (2, [.int d_now_lendings_most, .ref p_now_lendings_cells, .int ((f_X2_add d_now_lendings_most d_now_lendings_many d_now_lendings_cells x1 x2 x3 0).1)])), (p_now_lendings_cells, .inl (cI, 48, .inl ((f_X2_add d_now_lendings_most d_now_lendings_many d_now_lendings_cells x1 x2 x3 0).2))), (p_now_mounts, .inr (2, [.int d_now_mounts_most, .ref p_now_mounts_cells, .int d_now_mounts_many])), (p_now_undos, .inr (2, [.int d_now_undos_most, .ref p_now_undos_cells, .int d_now_undos_many])), (p_now_undos_cells, .inl (cI, 48, .inl d_now_undos_cells)), (p_told, .inr (4, [.ref p_told_dishes, .ref p_told_speakers, .ref p_told_noises, .ref p_told_askers])), (p_told_askers, .inr (2, [.int d_told_askers_most, .ref p_told_askers_cells, .int d_told_askers_many]))] H1 := hP.sub [0, 1, 7, 8, 2, 3, 4, 5, 6] rfl
          have hD : va_D A [(p_this, .inr (5, [.ref p_text, .ref p_reader, .ref p_told, .ref p_draft, .ref p_now, .ref p_imageZero, .ref p_imageOne, .ref p_slots, .ref p_placesOf, .int d_keptImages, .long d_traced])), (p_now, .inr (0, [.ref p_now_mounts, .ref p_now_lendings, .ref p_now_log, .ref p_now_undos])), (p_now_lendings, .inr (2, [.int d_now_lendings_most, .ref p_now_lendings_cells, .int ((f_X2_add d_now_lendings_most d_now_lendings_many d_now_lendings_cells x1 x2 x3 0).1)])), (p_now_lendings_cells, .inl (cI, 48, .inl ((f_X2_add d_now_lendings_most d_now_lendings_many d_now_lendings_cells x1 x2 x3 0).2))), (p_now_mounts, .inr (2, [.int d_now_mounts_most, .ref p_now_mounts_cells, .int d_now_mounts_many])), (p_now_undos, .inr (2, [.int d_now_undos_most, .ref p_now_undos_cells, .int d_now_undos_many])), (p_now_undos_cells, .inl (cI, 48, .inl d_now_undos_cells)), (p_told, .inr (4, [.ref p_told_dishes, .ref p_told_speakers, .ref p_told_noises, .ref p_told_askers])), (p_told_askers, .inr (2, [.int d_told_askers_most, .ref p_told_askers_cells, .int d_told_askers_many]))] := hD.sub [0, 1, 7, 8, 2, 3, 4, 5, 6] (by decide) rfl
          clear hPc hDc hFc hk1 hz1 hP1 hD1 ht hvm
          generalize H1 = H at hP hS ⊢
          refine lv_aload_n hx hb dX5_lend_55 rfl (lv_at hl 0 rfl) ?_
          refine va_get (D := (dC, dI)) (ci := 5) (v := .ref p_now) (C := RX5) (T := TX5) (N := 11) hx hb hts iwX5 hown hK hP 0 rfl rfl 4 (by decide) (hts (.fieldLink RX5 36 "SkyListeners" "now" "LSkyListeners$Now;") (by decide +kernel)) (fun _ h9 => h9) rfl dX5_lend_56 ?_
          refine lv_iconst (v := (-1)) hx hb dX5_lend_59 (by decide) ?_
          refine lv_iconst (v := 0) hx hb dX5_lend_60 (by decide) ?_
          obtain ⟨q61, hq61, hrun⟩ := bind_out hrun
          have hPc : va_P (dC, dI) vwCl [(p_now, .inr (0, [.ref p_now_mounts, .ref p_now_lendings, .ref p_now_log, .ref p_now_undos])), (p_now_undos, .inr (2, [.int d_now_undos_most, .ref p_now_undos_cells, .int d_now_undos_many])), (p_now_undos_cells, .inl (cI, 48, .inl d_now_undos_cells))] H := hP.sub [1, 5, 6] rfl
          have hDc : va_D A [(p_now, .inr (0, [.ref p_now_mounts, .ref p_now_lendings, .ref p_now_log, .ref p_now_undos])), (p_now_undos, .inr (2, [.int d_now_undos_most, .ref p_now_undos_cells, .int d_now_undos_many])), (p_now_undos_cells, .inl (cI, 48, .inl d_now_undos_cells))] := hD.sub [1, 5, 6] (by decide) rfl
          have hFc := va_free (wc := [(p_now, .inr (0, [.ref p_now_mounts, .ref p_now_lendings, .ref p_now_log, .ref p_now_undos])), (p_now_undos, .inr (2, [.int d_now_undos_most, .ref p_now_undos_cells, .int d_now_undos_many])), (p_now_undos_cells, .inl (cI, 48, .inl d_now_undos_cells))]) hD hS hA [1, 5, 6] rfl
          refine va_callv (va_runV (As := [.int (-1), .int 0]) (rest := []) ⟨hx, hb, hml, hown, hts⟩ (c_X0_remember l dC dI cI cZ H.size p_now_lendings p_now_log p_now_mounts p_now p_now_undos p_now_undos_cells d_now_undos_most d_now_undos_many d_now_undos_cells (-1) 0 q61 hq61) (cwV 2 hts gX5_lend_X0_remember rfl rfl rfl (by decide +kernel) ⟨Nat.le_of_ble_eq_true rfl, Nat.le_of_ble_eq_true rfl⟩) ⟨fun a U g mk q => ⟨q.1, PC.mv q.2⟩, va_recv hK hP (ci := 0) (q0 := 1) rfl rfl, fun U hU hW => ⟨rfl, PC.of hU hW hPc hK hDc hN⟩⟩ rfl rfl hl.1 rfl (lv_room (Nat.le_of_ble_eq_true rfl)) dX5_lend_61 ⟨Nat.zero_le _, Nat.zero_le _⟩) hS (fun q _ h => hFc q h) hFc (fun u t H1 locs ht hvm hw hB hz1 hk1 hS => ?_)
          obtain ⟨hP1, hD1⟩ := hB
          rw [ht] at hP1
          obtain ⟨hP, hD⟩ := va_join (wr := [(p_this, .inr (5, [.ref p_text, .ref p_reader, .ref p_told, .ref p_draft, .ref p_now, .ref p_imageZero, .ref p_imageOne, .ref p_slots, .ref p_placesOf, .int d_keptImages, .long d_traced])), (p_now_lendings, .inr (2, [.int d_now_lendings_most, .ref p_now_lendings_cells, .int ((f_X2_add d_now_lendings_most d_now_lendings_many d_now_lendings_cells x1 x2 x3 0).1)])), (p_now_lendings_cells, .inl (cI, 48, .inl ((f_X2_add d_now_lendings_most d_now_lendings_many d_now_lendings_cells x1 x2 x3 0).2))), (p_now_mounts, .inr (2, [.int d_now_mounts_most, .ref p_now_mounts_cells, .int d_now_mounts_many])), (p_told, .inr (4, [.ref p_told_dishes, .ref p_told_speakers, .ref p_told_noises, .ref p_told_askers])), (p_told_askers, .inr (2, [.int d_told_askers_most, .ref p_told_askers_cells, .int d_told_askers_many]))]) (w1 := [(p_now, .inr (0, [.ref p_now_mounts, .ref p_now_lendings, .ref p_now_log, .ref p_now_undos])), (p_now_undos, .inr (2, [.int d_now_undos_most, .ref p_now_undos_cells, .int q61.1])), (p_now_undos_cells, .inl (cI, 48, .inl q61.2))]) hP hD [1, 5, 6] [0, 2, 3, 4, 7, 8] rfl rfl (by decide) (by decide) hk1 hFc hP1 hD1
          have hP : va_P (dC, dI) vwCl [(p_this, .inr (5, [.ref p_text, .ref p_reader, .ref p_told, .ref p_draft, .ref p_now, .ref p_imageZero, .ref p_imageOne, .ref p_slots, .ref p_placesOf, .int d_keptImages, .long d_traced])), (p_now, .inr (0, [.ref p_now_mounts, .ref p_now_lendings, .ref p_now_log, .ref p_now_undos])), (p_now_lendings, .inr (2, [.int d_now_lendings_most, .ref p_now_lendings_cells, .int ((f_X2_add d_now_lendings_most d_now_lendings_many d_now_lendings_cells x1 x2 x3 0).1)])), (p_now_lendings_cells, .inl (cI, 48, .inl ((f_X2_add d_now_lendings_most d_now_lendings_many d_now_lendings_cells x1 x2 x3 0).2))), (p_now_mounts, .inr (2, [.int d_now_mounts_most, .ref p_now_mounts_cells, .int d_now_mounts_many])), (p_now_undos, .inr (2, [.int d_now_undos_most, .ref p_now_undos_cells, .int q61.1])), (p_now_undos_cells, .inl (cI, 48, .inl q61.2)), (p_told, .inr (4, [.ref p_told_dishes, .ref p_told_speakers, .ref p_told_noises, .ref p_told_askers])), (p_told_askers, .inr (2, [.int d_told_askers_most, .ref p_told_askers_cells, .int d_told_askers_many]))] H1 := hP.sub [0, 6, 1, 2, 3, 7, 8, 4, 5] rfl
          have hD : va_D A [(p_this, .inr (5, [.ref p_text, .ref p_reader, .ref p_told, .ref p_draft, .ref p_now, .ref p_imageZero, .ref p_imageOne, .ref p_slots, .ref p_placesOf, .int d_keptImages, .long d_traced])), (p_now, .inr (0, [.ref p_now_mounts, .ref p_now_lendings, .ref p_now_log, .ref p_now_undos])), (p_now_lendings, .inr (2, [.int d_now_lendings_most, .ref p_now_lendings_cells, .int ((f_X2_add d_now_lendings_most d_now_lendings_many d_now_lendings_cells x1 x2 x3 0).1)])), (p_now_lendings_cells, .inl (cI, 48, .inl ((f_X2_add d_now_lendings_most d_now_lendings_many d_now_lendings_cells x1 x2 x3 0).2))), (p_now_mounts, .inr (2, [.int d_now_mounts_most, .ref p_now_mounts_cells, .int d_now_mounts_many])), (p_now_undos, .inr (2, [.int d_now_undos_most, .ref p_now_undos_cells, .int q61.1])), (p_now_undos_cells, .inl (cI, 48, .inl q61.2)), (p_told, .inr (4, [.ref p_told_dishes, .ref p_told_speakers, .ref p_told_noises, .ref p_told_askers])), (p_told_askers, .inr (2, [.int d_told_askers_most, .ref p_told_askers_cells, .int d_told_askers_many]))] := hD.sub [0, 6, 1, 2, 3, 7, 8, 4, 5] (by decide) rfl
          clear hPc hDc hFc hk1 hz1 hP1 hD1 ht hvm
          generalize H1 = H at hP hS ⊢
          refine lv_aload_n hx hb dX5_lend_64 rfl (lv_at hl 0 rfl) ?_
          refine va_get (D := (dC, dI)) (ci := 5) (v := .ref p_now) (C := RX5) (T := TX5) (N := 11) hx hb hts iwX5 hown hK hP 0 rfl rfl 4 (by decide) (hts (.fieldLink RX5 36 "SkyListeners" "now" "LSkyListeners$Now;") (by decide +kernel)) (fun _ h9 => h9) rfl dX5_lend_65 ?_
          refine va_get (D := (dC, dI)) (ci := 0) (v := .ref p_now_lendings) (C := RX0) (T := TX0) (N := 4) hx hb hts iwX0 hown hK hP 1 rfl rfl 1 (by decide) (hts (.fieldLink RX5 126 "SkyListeners$Now" "lendings" "LSkyListeners$Rows;") (by decide +kernel)) (fun _ h9 => h9) rfl dX5_lend_68 ?_
          refine va_get (D := (dC, dI)) (ci := 2) (v := .int ((f_X2_add d_now_lendings_most d_now_lendings_many d_now_lendings_cells x1 x2 x3 0).1)) (C := RX2) (T := TX2) (N := 3) hx hb hts iwX2 hown hK hP 2 rfl rfl 2 (by decide) (hts (.fieldLink RX5 136 "SkyListeners$Rows" "many" "I") (by decide +kernel)) (fun _ h9 => h9) rfl dX5_lend_71 ?_
          have hrun := Option.some.inj hrun
          subst hrun
          rw [hQ]
          exact W.iret (v := (f_X2_add d_now_lendings_most d_now_lendings_many d_now_lendings_cells x1 x2 x3 0).1) hx hb hr (fun t ht hW => ⟨⟨(f_X2_add d_now_lendings_most d_now_lendings_many d_now_lendings_cells x1 x2 x3 0).1, (), rfl, rfl, by rw [ht]; exact hP, hD⟩, hS.F ht⟩) hS.2.2 dX5_lend_74
        · rw [if_neg c_35] at hrun
          refine lv_bipush (v := (-3)) hx hb dX5_lend_38 (by decide) ?_
          have hrun := Option.some.inj hrun
          subst hrun
          rw [hQ]
          exact W.iret (v := (-3)) hx hb hr (fun t ht hW => ⟨⟨(-3), (), rfl, rfl, by rw [ht]; exact hP, hD⟩, hS.F ht⟩) hS.2.2 dX5_lend_40
      · rw [if_pos c_20] at hrun
        refine lv_iconst (v := (-1)) hx hb dX5_lend_23 (by decide) ?_
        have hrun := Option.some.inj hrun
        subst hrun
        rw [hQ]
        exact W.iret (v := (-1)) hx hb hr (fun t ht hW => ⟨⟨(-1), (), rfl, rfl, by rw [ht]; exact hP, hD⟩, hS.F ht⟩) hS.2.2 dX5_lend_24
-- SkyListeners.lent
def f_X5_lent (d_now_lendings_many : Int32) (d_now_lendings_cells : Nat → Int32) (x1 : Int32) (x2 : Int32) : Int32 := (if x1 < 0 then ((-1)) else (if d_now_lendings_many ≤ x1 then ((-1)) else (if x2 < 0 then ((-1)) else (if x2 ≤ 2 then ((f_X2_number d_now_lendings_many d_now_lendings_cells x1 x2)) else ((-1))))))
set_option maxHeartbeats 4000000 in
set_option maxRecDepth 100000 in
theorem c_X5_lent (l : Launch) (dC : Nat → ClassId) (dI : Nat → Nat → Nat) (cI cZ : ClassId) (sz : Nat) (p_draft p_imageOne p_imageZero p_now p_now_lendings p_now_lendings_cells p_now_log p_now_mounts p_now_undos p_placesOf p_reader p_slots p_text p_this p_told : Nat) (d_keptImages : Int32) (d_traced : Int64) (d_now_lendings_most : Int32) (d_now_lendings_many : Int32) (d_now_lendings_cells : Nat → Int32) (x1 : Int32) (x2 : Int32) (out : Int32) (hrun : f_X5_lent d_now_lendings_many d_now_lendings_cells x1 x2 = out) : Met l yX5_lent wsX5_lent ({ frames := 2, cells := 0, slots := 0, locals := 44 } : Room) (va_Pc [.ref p_this, .int x1, .int x2] (PC dC dI cI cZ sz ([(p_this, .inr (5, [.ref p_text, .ref p_reader, .ref p_told, .ref p_draft, .ref p_now, .ref p_imageZero, .ref p_imageOne, .ref p_slots, .ref p_placesOf, .int d_keptImages, .long d_traced])), (p_now, .inr (0, [.ref p_now_mounts, .ref p_now_lendings, .ref p_now_log, .ref p_now_undos])), (p_now_lendings, .inr (2, [.int d_now_lendings_most, .ref p_now_lendings_cells, .int d_now_lendings_many])), (p_now_lendings_cells, .inl (cI, 48, .inl d_now_lendings_cells))] : va_W))) (va_Qi (fun r (_ : Unit) => r = out) (fun _ t => va_P (dC, dI) vwCl [(p_this, .inr (5, [.ref p_text, .ref p_reader, .ref p_told, .ref p_draft, .ref p_now, .ref p_imageZero, .ref p_imageOne, .ref p_slots, .ref p_placesOf, .int d_keptImages, .long d_traced])), (p_now, .inr (0, [.ref p_now_mounts, .ref p_now_lendings, .ref p_now_log, .ref p_now_undos])), (p_now_lendings, .inr (2, [.int d_now_lendings_most, .ref p_now_lendings_cells, .int d_now_lendings_many])), (p_now_lendings_cells, .inl (cI, 48, .inl d_now_lendings_cells))] t.heap ∧ va_D (va_A ([(p_this, .inr (5, [.ref p_text, .ref p_reader, .ref p_told, .ref p_draft, .ref p_now, .ref p_imageZero, .ref p_imageOne, .ref p_slots, .ref p_placesOf, .int d_keptImages, .long d_traced])), (p_now, .inr (0, [.ref p_now_mounts, .ref p_now_lendings, .ref p_now_log, .ref p_now_undos])), (p_now_lendings, .inr (2, [.int d_now_lendings_most, .ref p_now_lendings_cells, .int d_now_lendings_many])), (p_now_lendings_cells, .inl (cI, 48, .inl d_now_lendings_cells))] : va_W) sz) [(p_this, .inr (5, [.ref p_text, .ref p_reader, .ref p_told, .ref p_draft, .ref p_now, .ref p_imageZero, .ref p_imageOne, .ref p_slots, .ref p_placesOf, .int d_keptImages, .long d_traced])), (p_now, .inr (0, [.ref p_now_mounts, .ref p_now_lendings, .ref p_now_log, .ref p_now_undos])), (p_now_lendings, .inr (2, [.int d_now_lendings_most, .ref p_now_lendings_cells, .int d_now_lendings_many])), (p_now_lendings_cells, .inl (cI, 48, .inl d_now_lendings_cells))]) (va_A ([(p_this, .inr (5, [.ref p_text, .ref p_reader, .ref p_told, .ref p_draft, .ref p_now, .ref p_imageZero, .ref p_imageOne, .ref p_slots, .ref p_placesOf, .int d_keptImages, .long d_traced])), (p_now, .inr (0, [.ref p_now_mounts, .ref p_now_lendings, .ref p_now_log, .ref p_now_undos])), (p_now_lendings, .inr (2, [.int d_now_lendings_most, .ref p_now_lendings_cells, .int d_now_lendings_many])), (p_now_lendings_cells, .inl (cI, 48, .inl d_now_lendings_cells))] : va_W) sz)) 0 0 (va_A ([(p_this, .inr (5, [.ref p_text, .ref p_reader, .ref p_told, .ref p_draft, .ref p_now, .ref p_imageZero, .ref p_imageOne, .ref p_slots, .ref p_placesOf, .int d_keptImages, .long d_traced])), (p_now, .inr (0, [.ref p_now_mounts, .ref p_now_lendings, .ref p_now_log, .ref p_now_undos])), (p_now_lendings, .inr (2, [.int d_now_lendings_most, .ref p_now_lendings_cells, .int d_now_lendings_many])), (p_now_lendings_cells, .inl (cI, 48, .inl d_now_lendings_cells))] : va_W) sz) := by
  refine Met.ofW (cc := cX5_lent) (maxL := 3) (ret := (some .int)) (by decide) rfl ?_
  intro p e s m args below meth c s₁ B hml hv
  obtain ⟨rfl, hsz, hP, hK, hD0, hN⟩ := hv
  have hx := B.exec
  have hb := B.bytes
  have hr := B.returns
  have hts := atoms_spec (ws := wsX5_lent) B.pre
  have hown : s.vm.findClass RX5 = some m.cls := findClass_of_methodNamed B.named
  have hlocks := B.notSynchronized
  subst hsz
  have hD := hD0.self (sz := s.heap.size)
  generalize hAe : va_A ([(p_this, .inr (5, [.ref p_text, .ref p_reader, .ref p_told, .ref p_draft, .ref p_now, .ref p_imageZero, .ref p_imageOne, .ref p_slots, .ref p_placesOf, .int d_keptImages, .long d_traced])), (p_now, .inr (0, [.ref p_now_mounts, .ref p_now_lendings, .ref p_now_log, .ref p_now_undos])), (p_now_lendings, .inr (2, [.int d_now_lendings_most, .ref p_now_lendings_cells, .int d_now_lendings_many])), (p_now_lendings_cells, .inl (cI, 48, .inl d_now_lendings_cells))] : va_W) s.heap.size = A at hD ⊢
  have hA : ∀ q : Nat, s.heap.size ≤ q → A q := fun q h => by rw [← hAe]; exact Or.inr h
  have hS : va_S A s.heap s.heap [] := va_S.rf
  refine W_abs (fun Q hQ => ?_)
  have hl := lv_entry ([.ref p_this, .int x1, .int x2]) (n := 3) (Nat.le_of_ble_eq_true rfl)
  rw [lg_entry_eq]
  generalize (lg_sl ([.ref p_this, .int x1, .int x2]) ++ List.replicate (3 - (lg_sl ([.ref p_this, .int x1, .int x2])).length) Slot.unset).toArray = ls at hl ⊢
  have hl : lv_has ls 3 [(0, .ref p_this), (1, .int x1), (2, .int x2)] := hl
  rw [f_X5_lent] at hrun
  refine W_start (ws := [(p_this, .inr (5, [.ref p_text, .ref p_reader, .ref p_told, .ref p_draft, .ref p_now, .ref p_imageZero, .ref p_imageOne, .ref p_slots, .ref p_placesOf, .int d_keptImages, .long d_traced])), (p_now, .inr (0, [.ref p_now_mounts, .ref p_now_lendings, .ref p_now_log, .ref p_now_undos])), (p_now_lendings, .inr (2, [.int d_now_lendings_most, .ref p_now_lendings_cells, .int d_now_lendings_many])), (p_now_lendings_cells, .inl (cI, 48, .inl d_now_lendings_cells))]) hP hS (fun H locs hP hS => ?_)
  have iwX0 : ∀ w ∈ wsX00, w ∈ wsX5_lent := by decide +kernel
  have iwX2 : ∀ w ∈ wsX20, w ∈ wsX5_lent := by decide +kernel
  have iwX5 : ∀ w ∈ wsX50, w ∈ wsX5_lent := by decide +kernel
  refine lv_iload_n hx hb dX5_lent_0 rfl (lv_at hl 1 rfl) ?_
  refine lv_if_lt (tgt := 27) hx hb dX5_lent_1 (by decide) (fun c_1 => ?_) (fun c_1 => ?_)
  · rw [if_pos c_1] at hrun
    refine lv_iconst (v := (-1)) hx hb dX5_lent_27 (by decide) ?_
    have hrun := hrun
    subst hrun
    rw [hQ]
    exact W.iret (v := (-1)) hx hb hr (fun t ht hW => ⟨⟨(-1), (), rfl, rfl, by rw [ht]; exact hP, hD⟩, hS.F ht⟩) hS.2.2 dX5_lent_28
  · rw [if_neg c_1] at hrun
    refine lv_iload_n hx hb dX5_lent_4 rfl (lv_at hl 1 rfl) ?_
    refine lv_aload_n hx hb dX5_lent_5 rfl (lv_at hl 0 rfl) ?_
    refine va_get (D := (dC, dI)) (ci := 5) (v := .ref p_now) (C := RX5) (T := TX5) (N := 11) hx hb hts iwX5 hown hK hP 0 rfl rfl 4 (by decide) (hts (.fieldLink RX5 36 "SkyListeners" "now" "LSkyListeners$Now;") (by decide +kernel)) (fun _ h9 => h9) rfl dX5_lent_6 ?_
    refine va_get (D := (dC, dI)) (ci := 0) (v := .ref p_now_lendings) (C := RX0) (T := TX0) (N := 4) hx hb hts iwX0 hown hK hP 1 rfl rfl 1 (by decide) (hts (.fieldLink RX5 126 "SkyListeners$Now" "lendings" "LSkyListeners$Rows;") (by decide +kernel)) (fun _ h9 => h9) rfl dX5_lent_9 ?_
    refine va_get (D := (dC, dI)) (ci := 2) (v := .int d_now_lendings_many) (C := RX2) (T := TX2) (N := 3) hx hb hts iwX2 hown hK hP 2 rfl rfl 2 (by decide) (hts (.fieldLink RX5 136 "SkyListeners$Rows" "many" "I") (by decide +kernel)) (fun _ h9 => h9) rfl dX5_lent_12 ?_
    refine lv_icmp_ge (tgt := 27) hx hb dX5_lent_15 (by decide) (fun c_15 => ?_) (fun c_15 => ?_)
    · rw [if_pos c_15] at hrun
      refine lv_iconst (v := (-1)) hx hb dX5_lent_27 (by decide) ?_
      have hrun := hrun
      subst hrun
      rw [hQ]
      exact W.iret (v := (-1)) hx hb hr (fun t ht hW => ⟨⟨(-1), (), rfl, rfl, by rw [ht]; exact hP, hD⟩, hS.F ht⟩) hS.2.2 dX5_lent_28
    · rw [if_neg c_15] at hrun
      refine lv_iload_n hx hb dX5_lent_18 rfl (lv_at hl 2 rfl) ?_
      refine lv_if_lt (tgt := 27) hx hb dX5_lent_19 (by decide) (fun c_19 => ?_) (fun c_19 => ?_)
      · rw [if_pos c_19] at hrun
        refine lv_iconst (v := (-1)) hx hb dX5_lent_27 (by decide) ?_
        have hrun := hrun
        subst hrun
        rw [hQ]
        exact W.iret (v := (-1)) hx hb hr (fun t ht hW => ⟨⟨(-1), (), rfl, rfl, by rw [ht]; exact hP, hD⟩, hS.F ht⟩) hS.2.2 dX5_lent_28
      · rw [if_neg c_19] at hrun
        refine lv_iload_n hx hb dX5_lent_22 rfl (lv_at hl 2 rfl) ?_
        refine lv_iconst (v := 2) hx hb dX5_lent_23 (by decide) ?_
        refine lv_icmp_le (tgt := 29) hx hb dX5_lent_24 (by decide) (fun c_24 => ?_) (fun c_24 => ?_)
        · rw [if_pos c_24] at hrun
          refine lv_aload_n hx hb dX5_lent_29 rfl (lv_at hl 0 rfl) ?_
          refine va_get (D := (dC, dI)) (ci := 5) (v := .ref p_now) (C := RX5) (T := TX5) (N := 11) hx hb hts iwX5 hown hK hP 0 rfl rfl 4 (by decide) (hts (.fieldLink RX5 36 "SkyListeners" "now" "LSkyListeners$Now;") (by decide +kernel)) (fun _ h9 => h9) rfl dX5_lent_30 ?_
          refine va_get (D := (dC, dI)) (ci := 0) (v := .ref p_now_lendings) (C := RX0) (T := TX0) (N := 4) hx hb hts iwX0 hown hK hP 1 rfl rfl 1 (by decide) (hts (.fieldLink RX5 126 "SkyListeners$Now" "lendings" "LSkyListeners$Rows;") (by decide +kernel)) (fun _ h9 => h9) rfl dX5_lent_33 ?_
          refine lv_iload_n hx hb dX5_lent_36 rfl (lv_at hl 1 rfl) ?_
          refine lv_iload_n hx hb dX5_lent_37 rfl (lv_at hl 2 rfl) ?_
          have hPc : va_P (dC, dI) vwCl [(p_now_lendings, .inr (2, [.int d_now_lendings_most, .ref p_now_lendings_cells, .int d_now_lendings_many])), (p_now_lendings_cells, .inl (cI, 48, .inl d_now_lendings_cells))] H := hP.sub [2, 3] rfl
          have hDc : va_D A [(p_now_lendings, .inr (2, [.int d_now_lendings_most, .ref p_now_lendings_cells, .int d_now_lendings_many])), (p_now_lendings_cells, .inl (cI, 48, .inl d_now_lendings_cells))] := hD.sub [2, 3] (by decide) rfl
          have hFc := va_free (wc := [(p_now_lendings, .inr (2, [.int d_now_lendings_most, .ref p_now_lendings_cells, .int d_now_lendings_many])), (p_now_lendings_cells, .inl (cI, 48, .inl d_now_lendings_cells))]) hD hS hA [2, 3] rfl
          refine va_calli (va_runV (As := [.int x1, .int x2]) (rest := []) ⟨hx, hb, hml, hown, hts⟩ (c_X2_number l dC dI cI cZ H.size p_now_lendings_cells p_now_lendings d_now_lendings_most d_now_lendings_many d_now_lendings_cells x1 x2 (f_X2_number d_now_lendings_many d_now_lendings_cells x1 x2) rfl) (cwV 2 hts gX5_lent_X2_number rfl rfl rfl (by decide +kernel) ⟨Nat.le_of_ble_eq_true rfl, Nat.le_of_ble_eq_true rfl⟩) ⟨fun a U g mk q => ⟨q.1, PC.mv q.2⟩, va_recv hK hP (ci := 2) (q0 := 2) rfl rfl, fun U hU hW => ⟨rfl, PC.of hU hW hPc hK hDc hN⟩⟩ rfl rfl hl.1 rfl (lv_room (Nat.le_of_ble_eq_true rfl)) dX5_lent_38 ⟨Nat.zero_le _, Nat.zero_le _⟩) hS (fun q _ h => hFc q h) hFc (fun r_38 u t H1 locs ht hvm hw hB hz1 hk1 hS => ?_)
          obtain ⟨hP1, hD1⟩ := hB
          try dsimp only at hw
          rw [hw]
          rw [ht] at hP1
          have hP : va_P (dC, dI) vwCl [(p_this, .inr (5, [.ref p_text, .ref p_reader, .ref p_told, .ref p_draft, .ref p_now, .ref p_imageZero, .ref p_imageOne, .ref p_slots, .ref p_placesOf, .int d_keptImages, .long d_traced])), (p_now, .inr (0, [.ref p_now_mounts, .ref p_now_lendings, .ref p_now_log, .ref p_now_undos])), (p_now_lendings, .inr (2, [.int d_now_lendings_most, .ref p_now_lendings_cells, .int d_now_lendings_many])), (p_now_lendings_cells, .inl (cI, 48, .inl d_now_lendings_cells))] H1 := join_ro hP hD [2, 3] rfl hk1 hP1
          clear hPc hDc hFc hk1 hz1 hP1 hD1 ht hvm
          generalize H1 = H at hP hS ⊢
          have hrun := hrun
          subst hrun
          rw [hQ]
          exact W.iret (v := (f_X2_number d_now_lendings_many d_now_lendings_cells x1 x2)) hx hb hr (fun t ht hW => ⟨⟨(f_X2_number d_now_lendings_many d_now_lendings_cells x1 x2), (), rfl, rfl, by rw [ht]; exact hP, hD⟩, hS.F ht⟩) hS.2.2 dX5_lent_41
        · rw [if_neg c_24] at hrun
          refine lv_iconst (v := (-1)) hx hb dX5_lent_27 (by decide) ?_
          have hrun := hrun
          subst hrun
          rw [hQ]
          exact W.iret (v := (-1)) hx hb hr (fun t ht hW => ⟨⟨(-1), (), rfl, rfl, by rw [ht]; exact hP, hD⟩, hS.F ht⟩) hS.2.2 dX5_lent_28
-- SkyListeners.lentInVain
def f_X5_lentInVain_J80 (K4 : Int32 → Int32 → Option (Int32)) (x2 : Int32) (d_now_lendings_many : Int32) (d_now_lendings_cells : Nat → Int32) (d_now_mounts_many : Int32) (d_now_mounts_cells : Nat → Int32) (d_told_askers_many : Int32) (d_told_askers_cells : Nat → Int32) (x1 : Int32) : Option (Int32) := (K4 x1 (x2 + 1))
def f_X5_lentInVain_L4 (d_now_lendings_many : Int32) (d_now_lendings_cells : Nat → Int32) (d_now_mounts_many : Int32) (d_now_mounts_cells : Nat → Int32) (d_told_askers_many : Int32) (d_told_askers_cells : Nat → Int32) : Nat → Int32 → Int32 → Option (Int32)
  | 0, _, _ => none
  | n9 + 1, x1, x2 => (if d_now_lendings_many ≤ x2 then (some x1) else (if (f_X0_placeSeen d_now_mounts_many d_now_mounts_cells (f_X2_number d_now_lendings_many d_now_lendings_cells x2 0) (f_X2_number d_now_lendings_many d_now_lendings_cells x2 1)) = (f_X2_number d_told_askers_many d_told_askers_cells (f_X2_number d_now_lendings_many d_now_lendings_cells x2 2) 0) then (f_X5_lentInVain_J80 (f_X5_lentInVain_L4  d_now_lendings_many d_now_lendings_cells d_now_mounts_many d_now_mounts_cells d_told_askers_many d_told_askers_cells n9) x2 d_now_lendings_many d_now_lendings_cells d_now_mounts_many d_now_mounts_cells d_told_askers_many d_told_askers_cells x1) else (f_X5_lentInVain_J80 (f_X5_lentInVain_L4  d_now_lendings_many d_now_lendings_cells d_now_mounts_many d_now_mounts_cells d_told_askers_many d_told_askers_cells n9) x2 d_now_lendings_many d_now_lendings_cells d_now_mounts_many d_now_mounts_cells d_told_askers_many d_told_askers_cells (x1 + 1))))
def f_X5_lentInVain (d_now_lendings_many : Int32) (d_now_lendings_cells : Nat → Int32) (d_now_mounts_many : Int32) (d_now_mounts_cells : Nat → Int32) (d_told_askers_many : Int32) (d_told_askers_cells : Nat → Int32) : Option (Int32) := (f_X5_lentInVain_L4 d_now_lendings_many d_now_lendings_cells d_now_mounts_many d_now_mounts_cells d_told_askers_many d_told_askers_cells FU 0 0)
set_option maxHeartbeats 4000000 in
set_option maxRecDepth 100000 in
theorem c_X5_lentInVain (l : Launch) (dC : Nat → ClassId) (dI : Nat → Nat → Nat) (cI cZ : ClassId) (sz : Nat) (p_draft p_imageOne p_imageZero p_now p_now_lendings p_now_lendings_cells p_now_log p_now_mounts p_now_mounts_cells p_now_undos p_placesOf p_reader p_slots p_text p_this p_told p_told_askers p_told_askers_cells p_told_dishes p_told_noises p_told_speakers : Nat) (d_keptImages : Int32) (d_traced : Int64) (d_now_lendings_most : Int32) (d_now_lendings_many : Int32) (d_now_lendings_cells : Nat → Int32) (d_now_mounts_most : Int32) (d_now_mounts_many : Int32) (d_now_mounts_cells : Nat → Int32) (d_told_askers_most : Int32) (d_told_askers_many : Int32) (d_told_askers_cells : Nat → Int32) (out : Int32) (hrun : f_X5_lentInVain d_now_lendings_many d_now_lendings_cells d_now_mounts_many d_now_mounts_cells d_told_askers_many d_told_askers_cells = some out) : Met l yX5_lentInVain wsX5_lentInVain ({ frames := 3, cells := 0, slots := 0, locals := 66 } : Room) (va_Pc [.ref p_this] (PC dC dI cI cZ sz ([(p_this, .inr (5, [.ref p_text, .ref p_reader, .ref p_told, .ref p_draft, .ref p_now, .ref p_imageZero, .ref p_imageOne, .ref p_slots, .ref p_placesOf, .int d_keptImages, .long d_traced])), (p_now, .inr (0, [.ref p_now_mounts, .ref p_now_lendings, .ref p_now_log, .ref p_now_undos])), (p_now_lendings, .inr (2, [.int d_now_lendings_most, .ref p_now_lendings_cells, .int d_now_lendings_many])), (p_now_lendings_cells, .inl (cI, 48, .inl d_now_lendings_cells)), (p_now_mounts, .inr (2, [.int d_now_mounts_most, .ref p_now_mounts_cells, .int d_now_mounts_many])), (p_now_mounts_cells, .inl (cI, 48, .inl d_now_mounts_cells)), (p_told, .inr (4, [.ref p_told_dishes, .ref p_told_speakers, .ref p_told_noises, .ref p_told_askers])), (p_told_askers, .inr (2, [.int d_told_askers_most, .ref p_told_askers_cells, .int d_told_askers_many])), (p_told_askers_cells, .inl (cI, 48, .inl d_told_askers_cells))] : va_W))) (va_Qi (fun r (_ : Unit) => r = out) (fun _ t => va_P (dC, dI) vwCl [(p_this, .inr (5, [.ref p_text, .ref p_reader, .ref p_told, .ref p_draft, .ref p_now, .ref p_imageZero, .ref p_imageOne, .ref p_slots, .ref p_placesOf, .int d_keptImages, .long d_traced])), (p_now, .inr (0, [.ref p_now_mounts, .ref p_now_lendings, .ref p_now_log, .ref p_now_undos])), (p_now_lendings, .inr (2, [.int d_now_lendings_most, .ref p_now_lendings_cells, .int d_now_lendings_many])), (p_now_lendings_cells, .inl (cI, 48, .inl d_now_lendings_cells)), (p_now_mounts, .inr (2, [.int d_now_mounts_most, .ref p_now_mounts_cells, .int d_now_mounts_many])), (p_now_mounts_cells, .inl (cI, 48, .inl d_now_mounts_cells)), (p_told, .inr (4, [.ref p_told_dishes, .ref p_told_speakers, .ref p_told_noises, .ref p_told_askers])), (p_told_askers, .inr (2, [.int d_told_askers_most, .ref p_told_askers_cells, .int d_told_askers_many])), (p_told_askers_cells, .inl (cI, 48, .inl d_told_askers_cells))] t.heap ∧ va_D (va_A ([(p_this, .inr (5, [.ref p_text, .ref p_reader, .ref p_told, .ref p_draft, .ref p_now, .ref p_imageZero, .ref p_imageOne, .ref p_slots, .ref p_placesOf, .int d_keptImages, .long d_traced])), (p_now, .inr (0, [.ref p_now_mounts, .ref p_now_lendings, .ref p_now_log, .ref p_now_undos])), (p_now_lendings, .inr (2, [.int d_now_lendings_most, .ref p_now_lendings_cells, .int d_now_lendings_many])), (p_now_lendings_cells, .inl (cI, 48, .inl d_now_lendings_cells)), (p_now_mounts, .inr (2, [.int d_now_mounts_most, .ref p_now_mounts_cells, .int d_now_mounts_many])), (p_now_mounts_cells, .inl (cI, 48, .inl d_now_mounts_cells)), (p_told, .inr (4, [.ref p_told_dishes, .ref p_told_speakers, .ref p_told_noises, .ref p_told_askers])), (p_told_askers, .inr (2, [.int d_told_askers_most, .ref p_told_askers_cells, .int d_told_askers_many])), (p_told_askers_cells, .inl (cI, 48, .inl d_told_askers_cells))] : va_W) sz) [(p_this, .inr (5, [.ref p_text, .ref p_reader, .ref p_told, .ref p_draft, .ref p_now, .ref p_imageZero, .ref p_imageOne, .ref p_slots, .ref p_placesOf, .int d_keptImages, .long d_traced])), (p_now, .inr (0, [.ref p_now_mounts, .ref p_now_lendings, .ref p_now_log, .ref p_now_undos])), (p_now_lendings, .inr (2, [.int d_now_lendings_most, .ref p_now_lendings_cells, .int d_now_lendings_many])), (p_now_lendings_cells, .inl (cI, 48, .inl d_now_lendings_cells)), (p_now_mounts, .inr (2, [.int d_now_mounts_most, .ref p_now_mounts_cells, .int d_now_mounts_many])), (p_now_mounts_cells, .inl (cI, 48, .inl d_now_mounts_cells)), (p_told, .inr (4, [.ref p_told_dishes, .ref p_told_speakers, .ref p_told_noises, .ref p_told_askers])), (p_told_askers, .inr (2, [.int d_told_askers_most, .ref p_told_askers_cells, .int d_told_askers_many])), (p_told_askers_cells, .inl (cI, 48, .inl d_told_askers_cells))]) (va_A ([(p_this, .inr (5, [.ref p_text, .ref p_reader, .ref p_told, .ref p_draft, .ref p_now, .ref p_imageZero, .ref p_imageOne, .ref p_slots, .ref p_placesOf, .int d_keptImages, .long d_traced])), (p_now, .inr (0, [.ref p_now_mounts, .ref p_now_lendings, .ref p_now_log, .ref p_now_undos])), (p_now_lendings, .inr (2, [.int d_now_lendings_most, .ref p_now_lendings_cells, .int d_now_lendings_many])), (p_now_lendings_cells, .inl (cI, 48, .inl d_now_lendings_cells)), (p_now_mounts, .inr (2, [.int d_now_mounts_most, .ref p_now_mounts_cells, .int d_now_mounts_many])), (p_now_mounts_cells, .inl (cI, 48, .inl d_now_mounts_cells)), (p_told, .inr (4, [.ref p_told_dishes, .ref p_told_speakers, .ref p_told_noises, .ref p_told_askers])), (p_told_askers, .inr (2, [.int d_told_askers_most, .ref p_told_askers_cells, .int d_told_askers_many])), (p_told_askers_cells, .inl (cI, 48, .inl d_told_askers_cells))] : va_W) sz)) 0 0 (va_A ([(p_this, .inr (5, [.ref p_text, .ref p_reader, .ref p_told, .ref p_draft, .ref p_now, .ref p_imageZero, .ref p_imageOne, .ref p_slots, .ref p_placesOf, .int d_keptImages, .long d_traced])), (p_now, .inr (0, [.ref p_now_mounts, .ref p_now_lendings, .ref p_now_log, .ref p_now_undos])), (p_now_lendings, .inr (2, [.int d_now_lendings_most, .ref p_now_lendings_cells, .int d_now_lendings_many])), (p_now_lendings_cells, .inl (cI, 48, .inl d_now_lendings_cells)), (p_now_mounts, .inr (2, [.int d_now_mounts_most, .ref p_now_mounts_cells, .int d_now_mounts_many])), (p_now_mounts_cells, .inl (cI, 48, .inl d_now_mounts_cells)), (p_told, .inr (4, [.ref p_told_dishes, .ref p_told_speakers, .ref p_told_noises, .ref p_told_askers])), (p_told_askers, .inr (2, [.int d_told_askers_most, .ref p_told_askers_cells, .int d_told_askers_many])), (p_told_askers_cells, .inl (cI, 48, .inl d_told_askers_cells))] : va_W) sz) := by
  refine Met.ofW (cc := cX5_lentInVain) (maxL := 4) (ret := (some .int)) (by decide) rfl ?_
  intro p e s m args below meth c s₁ B hml hv
  obtain ⟨rfl, hsz, hP, hK, hD0, hN⟩ := hv
  have hx := B.exec
  have hb := B.bytes
  have hr := B.returns
  have hts := atoms_spec (ws := wsX5_lentInVain) B.pre
  have hown : s.vm.findClass RX5 = some m.cls := findClass_of_methodNamed B.named
  have hlocks := B.notSynchronized
  subst hsz
  have hD := hD0.self (sz := s.heap.size)
  generalize hAe : va_A ([(p_this, .inr (5, [.ref p_text, .ref p_reader, .ref p_told, .ref p_draft, .ref p_now, .ref p_imageZero, .ref p_imageOne, .ref p_slots, .ref p_placesOf, .int d_keptImages, .long d_traced])), (p_now, .inr (0, [.ref p_now_mounts, .ref p_now_lendings, .ref p_now_log, .ref p_now_undos])), (p_now_lendings, .inr (2, [.int d_now_lendings_most, .ref p_now_lendings_cells, .int d_now_lendings_many])), (p_now_lendings_cells, .inl (cI, 48, .inl d_now_lendings_cells)), (p_now_mounts, .inr (2, [.int d_now_mounts_most, .ref p_now_mounts_cells, .int d_now_mounts_many])), (p_now_mounts_cells, .inl (cI, 48, .inl d_now_mounts_cells)), (p_told, .inr (4, [.ref p_told_dishes, .ref p_told_speakers, .ref p_told_noises, .ref p_told_askers])), (p_told_askers, .inr (2, [.int d_told_askers_most, .ref p_told_askers_cells, .int d_told_askers_many])), (p_told_askers_cells, .inl (cI, 48, .inl d_told_askers_cells))] : va_W) s.heap.size = A at hD ⊢
  have hA : ∀ q : Nat, s.heap.size ≤ q → A q := fun q h => by rw [← hAe]; exact Or.inr h
  have hS : va_S A s.heap s.heap [] := va_S.rf
  refine W_abs (fun Q hQ => ?_)
  have hl := lv_entry ([.ref p_this]) (n := 4) (Nat.le_of_ble_eq_true rfl)
  rw [lg_entry_eq]
  generalize (lg_sl ([.ref p_this]) ++ List.replicate (4 - (lg_sl ([.ref p_this])).length) Slot.unset).toArray = ls at hl ⊢
  have hl : lv_has ls 4 [(0, .ref p_this)] := hl
  rw [f_X5_lentInVain] at hrun
  refine W_start (ws := [(p_this, .inr (5, [.ref p_text, .ref p_reader, .ref p_told, .ref p_draft, .ref p_now, .ref p_imageZero, .ref p_imageOne, .ref p_slots, .ref p_placesOf, .int d_keptImages, .long d_traced])), (p_now, .inr (0, [.ref p_now_mounts, .ref p_now_lendings, .ref p_now_log, .ref p_now_undos])), (p_now_lendings, .inr (2, [.int d_now_lendings_most, .ref p_now_lendings_cells, .int d_now_lendings_many])), (p_now_lendings_cells, .inl (cI, 48, .inl d_now_lendings_cells)), (p_now_mounts, .inr (2, [.int d_now_mounts_most, .ref p_now_mounts_cells, .int d_now_mounts_many])), (p_now_mounts_cells, .inl (cI, 48, .inl d_now_mounts_cells)), (p_told, .inr (4, [.ref p_told_dishes, .ref p_told_speakers, .ref p_told_noises, .ref p_told_askers])), (p_told_askers, .inr (2, [.int d_told_askers_most, .ref p_told_askers_cells, .int d_told_askers_many])), (p_told_askers_cells, .inl (cI, 48, .inl d_told_askers_cells))]) hP hS (fun H locs hP hS => ?_)
  have iwX0 : ∀ w ∈ wsX00, w ∈ wsX5_lentInVain := by decide +kernel
  have iwX2 : ∀ w ∈ wsX20, w ∈ wsX5_lentInVain := by decide +kernel
  have iwX4 : ∀ w ∈ wsX40, w ∈ wsX5_lentInVain := by decide +kernel
  have iwX5 : ∀ w ∈ wsX50, w ∈ wsX5_lentInVain := by decide +kernel
  refine lv_iconst (v := 0) hx hb dX5_lentInVain_0 (by decide) ?_
  refine lv_istore_n (lv' := [(1, .int 0), (0, .ref p_this)]) hx hb dX5_lentInVain_1 rfl hl (by decide) rfl (fun ls hl => ?_)
  refine lv_iconst (v := 0) hx hb dX5_lentInVain_2 (by decide) ?_
  refine lv_istore_n (lv' := [(2, .int 0), (1, .int 0), (0, .ref p_this)]) hx hb dX5_lentInVain_3 rfl hl (by decide) rfl (fun ls hl => ?_)
  have L4 : ∀ (n9_4 : Nat) (x1_4 : Int32) (x2_4 : Int32) (H : Heap) (locs : List Loc), va_P (dC, dI) vwCl [(p_this, .inr (5, [.ref p_text, .ref p_reader, .ref p_told, .ref p_draft, .ref p_now, .ref p_imageZero, .ref p_imageOne, .ref p_slots, .ref p_placesOf, .int d_keptImages, .long d_traced])), (p_now, .inr (0, [.ref p_now_mounts, .ref p_now_lendings, .ref p_now_log, .ref p_now_undos])), (p_now_lendings, .inr (2, [.int d_now_lendings_most, .ref p_now_lendings_cells, .int d_now_lendings_many])), (p_now_lendings_cells, .inl (cI, 48, .inl d_now_lendings_cells)), (p_now_mounts, .inr (2, [.int d_now_mounts_most, .ref p_now_mounts_cells, .int d_now_mounts_many])), (p_now_mounts_cells, .inl (cI, 48, .inl d_now_mounts_cells)), (p_told, .inr (4, [.ref p_told_dishes, .ref p_told_speakers, .ref p_told_noises, .ref p_told_askers])), (p_told_askers, .inr (2, [.int d_told_askers_most, .ref p_told_askers_cells, .int d_told_askers_many])), (p_told_askers_cells, .inl (cI, 48, .inl d_told_askers_cells))] H → va_D A [(p_this, .inr (5, [.ref p_text, .ref p_reader, .ref p_told, .ref p_draft, .ref p_now, .ref p_imageZero, .ref p_imageOne, .ref p_slots, .ref p_placesOf, .int d_keptImages, .long d_traced])), (p_now, .inr (0, [.ref p_now_mounts, .ref p_now_lendings, .ref p_now_log, .ref p_now_undos])), (p_now_lendings, .inr (2, [.int d_now_lendings_most, .ref p_now_lendings_cells, .int d_now_lendings_many])), (p_now_lendings_cells, .inl (cI, 48, .inl d_now_lendings_cells)), (p_now_mounts, .inr (2, [.int d_now_mounts_most, .ref p_now_mounts_cells, .int d_now_mounts_many])), (p_now_mounts_cells, .inl (cI, 48, .inl d_now_mounts_cells)), (p_told, .inr (4, [.ref p_told_dishes, .ref p_told_speakers, .ref p_told_noises, .ref p_told_askers])), (p_told_askers, .inr (2, [.int d_told_askers_most, .ref p_told_askers_cells, .int d_told_askers_many])), (p_told_askers_cells, .inl (cI, 48, .inl d_told_askers_cells))] → va_S A s.heap H locs → ∀ ls : Array Slot, lv_has ls 4 [(0, .ref p_this), (1, .int x1_4), (2, .int x2_4)] → f_X5_lentInVain_L4 d_now_lendings_many d_now_lendings_cells d_now_mounts_many d_now_mounts_cells d_told_askers_many d_told_askers_cells n9_4 x1_4 x2_4 = some out → W p l e ({ frames := 3, cells := 0, slots := 0, locals := 66 } : Room) s m ([.ref p_this] : List Value).toArray below meth c H locs 0 0 Q (F0 m 4 ls []) := by
    intro n9_4
    induction n9_4 with
    | zero =>
      intro x1_4 x2_4 H locs hP hD hS ls hl hrun
      rw [f_X5_lentInVain_L4] at hrun
      cases hrun
    | succ n9_4 ih4 =>
      intro x1_4 x2_4 H locs hP hD hS ls hl hrun
      rw [f_X5_lentInVain_L4] at hrun
      refine lv_iload_n hx hb dX5_lentInVain_4 rfl (lv_at hl 2 rfl) ?_
      refine lv_aload_n hx hb dX5_lentInVain_5 rfl (lv_at hl 0 rfl) ?_
      refine va_get (D := (dC, dI)) (ci := 5) (v := .ref p_now) (C := RX5) (T := TX5) (N := 11) hx hb hts iwX5 hown hK hP 0 rfl rfl 4 (by decide) (hts (.fieldLink RX5 36 "SkyListeners" "now" "LSkyListeners$Now;") (by decide +kernel)) (fun _ h9 => h9) rfl dX5_lentInVain_6 ?_
      refine va_get (D := (dC, dI)) (ci := 0) (v := .ref p_now_lendings) (C := RX0) (T := TX0) (N := 4) hx hb hts iwX0 hown hK hP 1 rfl rfl 1 (by decide) (hts (.fieldLink RX5 126 "SkyListeners$Now" "lendings" "LSkyListeners$Rows;") (by decide +kernel)) (fun _ h9 => h9) rfl dX5_lentInVain_9 ?_
      refine va_get (D := (dC, dI)) (ci := 2) (v := .int d_now_lendings_many) (C := RX2) (T := TX2) (N := 3) hx hb hts iwX2 hown hK hP 2 rfl rfl 2 (by decide) (hts (.fieldLink RX5 136 "SkyListeners$Rows" "many" "I") (by decide +kernel)) (fun _ h9 => h9) rfl dX5_lentInVain_12 ?_
      refine lv_icmp_ge (tgt := 86) hx hb dX5_lentInVain_15 (by decide) (fun c_15 => ?_) (fun c_15 => ?_)
      · rw [if_pos c_15] at hrun
        refine lv_iload_n hx hb dX5_lentInVain_86 rfl (lv_at hl 1 rfl) ?_
        have hrun := Option.some.inj hrun
        subst hrun
        rw [hQ]
        exact W.iret (v := x1_4) hx hb hr (fun t ht hW => ⟨⟨x1_4, (), rfl, rfl, by rw [ht]; exact hP, hD⟩, hS.F ht⟩) hS.2.2 dX5_lentInVain_87
      · rw [if_neg c_15] at hrun
        refine lv_aload_n hx hb dX5_lentInVain_18 rfl (lv_at hl 0 rfl) ?_
        refine va_get (D := (dC, dI)) (ci := 5) (v := .ref p_now) (C := RX5) (T := TX5) (N := 11) hx hb hts iwX5 hown hK hP 0 rfl rfl 4 (by decide) (hts (.fieldLink RX5 36 "SkyListeners" "now" "LSkyListeners$Now;") (by decide +kernel)) (fun _ h9 => h9) rfl dX5_lentInVain_19 ?_
        refine lv_aload_n hx hb dX5_lentInVain_22 rfl (lv_at hl 0 rfl) ?_
        refine va_get (D := (dC, dI)) (ci := 5) (v := .ref p_now) (C := RX5) (T := TX5) (N := 11) hx hb hts iwX5 hown hK hP 0 rfl rfl 4 (by decide) (hts (.fieldLink RX5 36 "SkyListeners" "now" "LSkyListeners$Now;") (by decide +kernel)) (fun _ h9 => h9) rfl dX5_lentInVain_23 ?_
        refine va_get (D := (dC, dI)) (ci := 0) (v := .ref p_now_lendings) (C := RX0) (T := TX0) (N := 4) hx hb hts iwX0 hown hK hP 1 rfl rfl 1 (by decide) (hts (.fieldLink RX5 126 "SkyListeners$Now" "lendings" "LSkyListeners$Rows;") (by decide +kernel)) (fun _ h9 => h9) rfl dX5_lentInVain_26 ?_
        refine lv_iload_n hx hb dX5_lentInVain_29 rfl (lv_at hl 2 rfl) ?_
        refine lv_iconst (v := 0) hx hb dX5_lentInVain_30 (by decide) ?_
        have hPc : va_P (dC, dI) vwCl [(p_now_lendings, .inr (2, [.int d_now_lendings_most, .ref p_now_lendings_cells, .int d_now_lendings_many])), (p_now_lendings_cells, .inl (cI, 48, .inl d_now_lendings_cells))] H := hP.sub [2, 3] rfl
        have hDc : va_D A [(p_now_lendings, .inr (2, [.int d_now_lendings_most, .ref p_now_lendings_cells, .int d_now_lendings_many])), (p_now_lendings_cells, .inl (cI, 48, .inl d_now_lendings_cells))] := hD.sub [2, 3] (by decide) rfl
        have hFc := va_free (wc := [(p_now_lendings, .inr (2, [.int d_now_lendings_most, .ref p_now_lendings_cells, .int d_now_lendings_many])), (p_now_lendings_cells, .inl (cI, 48, .inl d_now_lendings_cells))]) hD hS hA [2, 3] rfl
        refine va_calli (va_runV (As := [.int x2_4, .int 0]) (rest := [.ref p_now]) ⟨hx, hb, hml, hown, hts⟩ (c_X2_number l dC dI cI cZ H.size p_now_lendings_cells p_now_lendings d_now_lendings_most d_now_lendings_many d_now_lendings_cells x2_4 0 (f_X2_number d_now_lendings_many d_now_lendings_cells x2_4 0) rfl) (cwV 2 hts gX5_lentInVain_X2_number rfl rfl rfl (by decide +kernel) ⟨Nat.le_of_ble_eq_true rfl, Nat.le_of_ble_eq_true rfl⟩) ⟨fun a U g mk q => ⟨q.1, PC.mv q.2⟩, va_recv hK hP (ci := 2) (q0 := 2) rfl rfl, fun U hU hW => ⟨rfl, PC.of hU hW hPc hK hDc hN⟩⟩ rfl rfl hl.1 rfl (lv_room (Nat.le_of_ble_eq_true rfl)) dX5_lentInVain_31 ⟨Nat.zero_le _, Nat.zero_le _⟩) hS (fun q _ h => hFc q h) hFc (fun r_31 u t H1 locs ht hvm hw hB hz1 hk1 hS => ?_)
        obtain ⟨hP1, hD1⟩ := hB
        try dsimp only at hw
        rw [hw]
        rw [ht] at hP1
        have hP : va_P (dC, dI) vwCl [(p_this, .inr (5, [.ref p_text, .ref p_reader, .ref p_told, .ref p_draft, .ref p_now, .ref p_imageZero, .ref p_imageOne, .ref p_slots, .ref p_placesOf, .int d_keptImages, .long d_traced])), (p_now, .inr (0, [.ref p_now_mounts, .ref p_now_lendings, .ref p_now_log, .ref p_now_undos])), (p_now_lendings, .inr (2, [.int d_now_lendings_most, .ref p_now_lendings_cells, .int d_now_lendings_many])), (p_now_lendings_cells, .inl (cI, 48, .inl d_now_lendings_cells)), (p_now_mounts, .inr (2, [.int d_now_mounts_most, .ref p_now_mounts_cells, .int d_now_mounts_many])), (p_now_mounts_cells, .inl (cI, 48, .inl d_now_mounts_cells)), (p_told, .inr (4, [.ref p_told_dishes, .ref p_told_speakers, .ref p_told_noises, .ref p_told_askers])), (p_told_askers, .inr (2, [.int d_told_askers_most, .ref p_told_askers_cells, .int d_told_askers_many])), (p_told_askers_cells, .inl (cI, 48, .inl d_told_askers_cells))] H1 := join_ro hP hD [2, 3] rfl hk1 hP1
        clear hPc hDc hFc hk1 hz1 hP1 hD1 ht hvm
        generalize H1 = H at hP hS ⊢
        refine lv_aload_n hx hb dX5_lentInVain_34 rfl (lv_at hl 0 rfl) ?_
        refine va_get (D := (dC, dI)) (ci := 5) (v := .ref p_now) (C := RX5) (T := TX5) (N := 11) hx hb hts iwX5 hown hK hP 0 rfl rfl 4 (by decide) (hts (.fieldLink RX5 36 "SkyListeners" "now" "LSkyListeners$Now;") (by decide +kernel)) (fun _ h9 => h9) rfl dX5_lentInVain_35 ?_
        refine va_get (D := (dC, dI)) (ci := 0) (v := .ref p_now_lendings) (C := RX0) (T := TX0) (N := 4) hx hb hts iwX0 hown hK hP 1 rfl rfl 1 (by decide) (hts (.fieldLink RX5 126 "SkyListeners$Now" "lendings" "LSkyListeners$Rows;") (by decide +kernel)) (fun _ h9 => h9) rfl dX5_lentInVain_38 ?_
        refine lv_iload_n hx hb dX5_lentInVain_41 rfl (lv_at hl 2 rfl) ?_
        refine lv_iconst (v := 1) hx hb dX5_lentInVain_42 (by decide) ?_
        have hPc : va_P (dC, dI) vwCl [(p_now_lendings, .inr (2, [.int d_now_lendings_most, .ref p_now_lendings_cells, .int d_now_lendings_many])), (p_now_lendings_cells, .inl (cI, 48, .inl d_now_lendings_cells))] H := hP.sub [2, 3] rfl
        have hDc : va_D A [(p_now_lendings, .inr (2, [.int d_now_lendings_most, .ref p_now_lendings_cells, .int d_now_lendings_many])), (p_now_lendings_cells, .inl (cI, 48, .inl d_now_lendings_cells))] := hD.sub [2, 3] (by decide) rfl
        have hFc := va_free (wc := [(p_now_lendings, .inr (2, [.int d_now_lendings_most, .ref p_now_lendings_cells, .int d_now_lendings_many])), (p_now_lendings_cells, .inl (cI, 48, .inl d_now_lendings_cells))]) hD hS hA [2, 3] rfl
        refine va_calli (va_runV (As := [.int x2_4, .int 1]) (rest := [.int (f_X2_number d_now_lendings_many d_now_lendings_cells x2_4 0), .ref p_now]) ⟨hx, hb, hml, hown, hts⟩ (c_X2_number l dC dI cI cZ H.size p_now_lendings_cells p_now_lendings d_now_lendings_most d_now_lendings_many d_now_lendings_cells x2_4 1 (f_X2_number d_now_lendings_many d_now_lendings_cells x2_4 1) rfl) (cwV 2 hts gX5_lentInVain_X2_number rfl rfl rfl (by decide +kernel) ⟨Nat.le_of_ble_eq_true rfl, Nat.le_of_ble_eq_true rfl⟩) ⟨fun a U g mk q => ⟨q.1, PC.mv q.2⟩, va_recv hK hP (ci := 2) (q0 := 2) rfl rfl, fun U hU hW => ⟨rfl, PC.of hU hW hPc hK hDc hN⟩⟩ rfl rfl hl.1 rfl (lv_room (Nat.le_of_ble_eq_true rfl)) dX5_lentInVain_43 ⟨Nat.zero_le _, Nat.zero_le _⟩) hS (fun q _ h => hFc q h) hFc (fun r_43 u t H1 locs ht hvm hw hB hz1 hk1 hS => ?_)
        obtain ⟨hP1, hD1⟩ := hB
        try dsimp only at hw
        rw [hw]
        rw [ht] at hP1
        have hP : va_P (dC, dI) vwCl [(p_this, .inr (5, [.ref p_text, .ref p_reader, .ref p_told, .ref p_draft, .ref p_now, .ref p_imageZero, .ref p_imageOne, .ref p_slots, .ref p_placesOf, .int d_keptImages, .long d_traced])), (p_now, .inr (0, [.ref p_now_mounts, .ref p_now_lendings, .ref p_now_log, .ref p_now_undos])), (p_now_lendings, .inr (2, [.int d_now_lendings_most, .ref p_now_lendings_cells, .int d_now_lendings_many])), (p_now_lendings_cells, .inl (cI, 48, .inl d_now_lendings_cells)), (p_now_mounts, .inr (2, [.int d_now_mounts_most, .ref p_now_mounts_cells, .int d_now_mounts_many])), (p_now_mounts_cells, .inl (cI, 48, .inl d_now_mounts_cells)), (p_told, .inr (4, [.ref p_told_dishes, .ref p_told_speakers, .ref p_told_noises, .ref p_told_askers])), (p_told_askers, .inr (2, [.int d_told_askers_most, .ref p_told_askers_cells, .int d_told_askers_many])), (p_told_askers_cells, .inl (cI, 48, .inl d_told_askers_cells))] H1 := join_ro hP hD [2, 3] rfl hk1 hP1
        clear hPc hDc hFc hk1 hz1 hP1 hD1 ht hvm
        generalize H1 = H at hP hS ⊢
        have hPc : va_P (dC, dI) vwCl [(p_now, .inr (0, [.ref p_now_mounts, .ref p_now_lendings, .ref p_now_log, .ref p_now_undos])), (p_now_mounts, .inr (2, [.int d_now_mounts_most, .ref p_now_mounts_cells, .int d_now_mounts_many])), (p_now_mounts_cells, .inl (cI, 48, .inl d_now_mounts_cells))] H := hP.sub [1, 4, 5] rfl
        have hDc : va_D A [(p_now, .inr (0, [.ref p_now_mounts, .ref p_now_lendings, .ref p_now_log, .ref p_now_undos])), (p_now_mounts, .inr (2, [.int d_now_mounts_most, .ref p_now_mounts_cells, .int d_now_mounts_many])), (p_now_mounts_cells, .inl (cI, 48, .inl d_now_mounts_cells))] := hD.sub [1, 4, 5] (by decide) rfl
        have hFc := va_free (wc := [(p_now, .inr (0, [.ref p_now_mounts, .ref p_now_lendings, .ref p_now_log, .ref p_now_undos])), (p_now_mounts, .inr (2, [.int d_now_mounts_most, .ref p_now_mounts_cells, .int d_now_mounts_many])), (p_now_mounts_cells, .inl (cI, 48, .inl d_now_mounts_cells))]) hD hS hA [1, 4, 5] rfl
        refine va_calli (va_runV (As := [.int (f_X2_number d_now_lendings_many d_now_lendings_cells x2_4 0), .int (f_X2_number d_now_lendings_many d_now_lendings_cells x2_4 1)]) (rest := []) ⟨hx, hb, hml, hown, hts⟩ (c_X0_placeSeen l dC dI cI cZ H.size p_now_lendings p_now_log p_now_mounts p_now_mounts_cells p_now p_now_undos d_now_mounts_most d_now_mounts_many d_now_mounts_cells (f_X2_number d_now_lendings_many d_now_lendings_cells x2_4 0) (f_X2_number d_now_lendings_many d_now_lendings_cells x2_4 1) (f_X0_placeSeen d_now_mounts_many d_now_mounts_cells (f_X2_number d_now_lendings_many d_now_lendings_cells x2_4 0) (f_X2_number d_now_lendings_many d_now_lendings_cells x2_4 1)) rfl) (cwV 2 hts gX5_lentInVain_X0_placeSeen rfl rfl rfl (by decide +kernel) ⟨Nat.le_of_ble_eq_true rfl, Nat.le_of_ble_eq_true rfl⟩) ⟨fun a U g mk q => ⟨q.1, PC.mv q.2⟩, va_recv hK hP (ci := 0) (q0 := 1) rfl rfl, fun U hU hW => ⟨rfl, PC.of hU hW hPc hK hDc hN⟩⟩ rfl rfl hl.1 rfl (lv_room (Nat.le_of_ble_eq_true rfl)) dX5_lentInVain_46 ⟨Nat.zero_le _, Nat.zero_le _⟩) hS (fun q _ h => hFc q h) hFc (fun r_46 u t H1 locs ht hvm hw hB hz1 hk1 hS => ?_)
        obtain ⟨hP1, hD1⟩ := hB
        try dsimp only at hw
        rw [hw]
        rw [ht] at hP1
        have hP : va_P (dC, dI) vwCl [(p_this, .inr (5, [.ref p_text, .ref p_reader, .ref p_told, .ref p_draft, .ref p_now, .ref p_imageZero, .ref p_imageOne, .ref p_slots, .ref p_placesOf, .int d_keptImages, .long d_traced])), (p_now, .inr (0, [.ref p_now_mounts, .ref p_now_lendings, .ref p_now_log, .ref p_now_undos])), (p_now_lendings, .inr (2, [.int d_now_lendings_most, .ref p_now_lendings_cells, .int d_now_lendings_many])), (p_now_lendings_cells, .inl (cI, 48, .inl d_now_lendings_cells)), (p_now_mounts, .inr (2, [.int d_now_mounts_most, .ref p_now_mounts_cells, .int d_now_mounts_many])), (p_now_mounts_cells, .inl (cI, 48, .inl d_now_mounts_cells)), (p_told, .inr (4, [.ref p_told_dishes, .ref p_told_speakers, .ref p_told_noises, .ref p_told_askers])), (p_told_askers, .inr (2, [.int d_told_askers_most, .ref p_told_askers_cells, .int d_told_askers_many])), (p_told_askers_cells, .inl (cI, 48, .inl d_told_askers_cells))] H1 := join_ro hP hD [1, 4, 5] rfl hk1 hP1
        clear hPc hDc hFc hk1 hz1 hP1 hD1 ht hvm
        generalize H1 = H at hP hS ⊢
        refine lv_istore_n (lv' := [(3, .int (f_X0_placeSeen d_now_mounts_many d_now_mounts_cells (f_X2_number d_now_lendings_many d_now_lendings_cells x2_4 0) (f_X2_number d_now_lendings_many d_now_lendings_cells x2_4 1))), (0, .ref p_this), (1, .int x1_4), (2, .int x2_4)]) hx hb dX5_lentInVain_49 rfl hl (by decide) rfl (fun ls hl => ?_)
        refine lv_iload_n hx hb dX5_lentInVain_50 rfl (lv_at hl 0 rfl) ?_
        refine lv_aload_n hx hb dX5_lentInVain_51 rfl (lv_at hl 1 rfl) ?_
        refine va_get (D := (dC, dI)) (ci := 5) (v := .ref p_told) (C := RX5) (T := TX5) (N := 11) hx hb hts iwX5 hown hK hP 0 rfl rfl 2 (by decide) (hts (.fieldLink RX5 26 "SkyListeners" "told" "LSkyListeners$Valley;") (by decide +kernel)) (fun _ h9 => h9) rfl dX5_lentInVain_52 ?_
        refine va_get (D := (dC, dI)) (ci := 4) (v := .ref p_told_askers) (C := RX4) (T := TX4) (N := 4) hx hb hts iwX4 hown hK hP 6 rfl rfl 3 (by decide) (hts (.fieldLink RX5 106 "SkyListeners$Valley" "askers" "LSkyListeners$Rows;") (by decide +kernel)) (fun _ h9 => h9) rfl dX5_lentInVain_55 ?_
        refine lv_aload_n hx hb dX5_lentInVain_58 rfl (lv_at hl 1 rfl) ?_
        refine va_get (D := (dC, dI)) (ci := 5) (v := .ref p_now) (C := RX5) (T := TX5) (N := 11) hx hb hts iwX5 hown hK hP 0 rfl rfl 4 (by decide) (hts (.fieldLink RX5 36 "SkyListeners" "now" "LSkyListeners$Now;") (by decide +kernel)) (fun _ h9 => h9) rfl dX5_lentInVain_59 ?_
        refine va_get (D := (dC, dI)) (ci := 0) (v := .ref p_now_lendings) (C := RX0) (T := TX0) (N := 4) hx hb hts iwX0 hown hK hP 1 rfl rfl 1 (by decide) (hts (.fieldLink RX5 126 "SkyListeners$Now" "lendings" "LSkyListeners$Rows;") (by decide +kernel)) (fun _ h9 => h9) rfl dX5_lentInVain_62 ?_
        refine lv_iload_n hx hb dX5_lentInVain_65 rfl (lv_at hl 3 rfl) ?_
        refine lv_iconst (v := 2) hx hb dX5_lentInVain_66 (by decide) ?_
        have hPc : va_P (dC, dI) vwCl [(p_now_lendings, .inr (2, [.int d_now_lendings_most, .ref p_now_lendings_cells, .int d_now_lendings_many])), (p_now_lendings_cells, .inl (cI, 48, .inl d_now_lendings_cells))] H := hP.sub [2, 3] rfl
        have hDc : va_D A [(p_now_lendings, .inr (2, [.int d_now_lendings_most, .ref p_now_lendings_cells, .int d_now_lendings_many])), (p_now_lendings_cells, .inl (cI, 48, .inl d_now_lendings_cells))] := hD.sub [2, 3] (by decide) rfl
        have hFc := va_free (wc := [(p_now_lendings, .inr (2, [.int d_now_lendings_most, .ref p_now_lendings_cells, .int d_now_lendings_many])), (p_now_lendings_cells, .inl (cI, 48, .inl d_now_lendings_cells))]) hD hS hA [2, 3] rfl
        refine va_calli (va_runV (As := [.int x2_4, .int 2]) (rest := [.ref p_told_askers, .int (f_X0_placeSeen d_now_mounts_many d_now_mounts_cells (f_X2_number d_now_lendings_many d_now_lendings_cells x2_4 0) (f_X2_number d_now_lendings_many d_now_lendings_cells x2_4 1))]) ⟨hx, hb, hml, hown, hts⟩ (c_X2_number l dC dI cI cZ H.size p_now_lendings_cells p_now_lendings d_now_lendings_most d_now_lendings_many d_now_lendings_cells x2_4 2 (f_X2_number d_now_lendings_many d_now_lendings_cells x2_4 2) rfl) (cwV 2 hts gX5_lentInVain_X2_number rfl rfl rfl (by decide +kernel) ⟨Nat.le_of_ble_eq_true rfl, Nat.le_of_ble_eq_true rfl⟩) ⟨fun a U g mk q => ⟨q.1, PC.mv q.2⟩, va_recv hK hP (ci := 2) (q0 := 2) rfl rfl, fun U hU hW => ⟨rfl, PC.of hU hW hPc hK hDc hN⟩⟩ rfl rfl hl.1 rfl (lv_room (Nat.le_of_ble_eq_true rfl)) dX5_lentInVain_67 ⟨Nat.zero_le _, Nat.zero_le _⟩) hS (fun q _ h => hFc q h) hFc (fun r_67 u t H1 locs ht hvm hw hB hz1 hk1 hS => ?_)
        obtain ⟨hP1, hD1⟩ := hB
        try dsimp only at hw
        rw [hw]
        rw [ht] at hP1
        have hP : va_P (dC, dI) vwCl [(p_this, .inr (5, [.ref p_text, .ref p_reader, .ref p_told, .ref p_draft, .ref p_now, .ref p_imageZero, .ref p_imageOne, .ref p_slots, .ref p_placesOf, .int d_keptImages, .long d_traced])), (p_now, .inr (0, [.ref p_now_mounts, .ref p_now_lendings, .ref p_now_log, .ref p_now_undos])), (p_now_lendings, .inr (2, [.int d_now_lendings_most, .ref p_now_lendings_cells, .int d_now_lendings_many])), (p_now_lendings_cells, .inl (cI, 48, .inl d_now_lendings_cells)), (p_now_mounts, .inr (2, [.int d_now_mounts_most, .ref p_now_mounts_cells, .int d_now_mounts_many])), (p_now_mounts_cells, .inl (cI, 48, .inl d_now_mounts_cells)), (p_told, .inr (4, [.ref p_told_dishes, .ref p_told_speakers, .ref p_told_noises, .ref p_told_askers])), (p_told_askers, .inr (2, [.int d_told_askers_most, .ref p_told_askers_cells, .int d_told_askers_many])), (p_told_askers_cells, .inl (cI, 48, .inl d_told_askers_cells))] H1 := join_ro hP hD [2, 3] rfl hk1 hP1
        clear hPc hDc hFc hk1 hz1 hP1 hD1 ht hvm
        generalize H1 = H at hP hS ⊢
        refine lv_iconst (v := 0) hx hb dX5_lentInVain_70 (by decide) ?_
        have hPc : va_P (dC, dI) vwCl [(p_told_askers, .inr (2, [.int d_told_askers_most, .ref p_told_askers_cells, .int d_told_askers_many])), (p_told_askers_cells, .inl (cI, 48, .inl d_told_askers_cells))] H := hP.sub [7, 8] rfl
        have hDc : va_D A [(p_told_askers, .inr (2, [.int d_told_askers_most, .ref p_told_askers_cells, .int d_told_askers_many])), (p_told_askers_cells, .inl (cI, 48, .inl d_told_askers_cells))] := hD.sub [7, 8] (by decide) rfl
        have hFc := va_free (wc := [(p_told_askers, .inr (2, [.int d_told_askers_most, .ref p_told_askers_cells, .int d_told_askers_many])), (p_told_askers_cells, .inl (cI, 48, .inl d_told_askers_cells))]) hD hS hA [7, 8] rfl
        refine va_calli (va_runV (As := [.int (f_X2_number d_now_lendings_many d_now_lendings_cells x2_4 2), .int 0]) (rest := [.int (f_X0_placeSeen d_now_mounts_many d_now_mounts_cells (f_X2_number d_now_lendings_many d_now_lendings_cells x2_4 0) (f_X2_number d_now_lendings_many d_now_lendings_cells x2_4 1))]) ⟨hx, hb, hml, hown, hts⟩ (c_X2_number l dC dI cI cZ H.size p_told_askers_cells p_told_askers d_told_askers_most d_told_askers_many d_told_askers_cells (f_X2_number d_now_lendings_many d_now_lendings_cells x2_4 2) 0 (f_X2_number d_told_askers_many d_told_askers_cells (f_X2_number d_now_lendings_many d_now_lendings_cells x2_4 2) 0) rfl) (cwV 2 hts gX5_lentInVain_X2_number rfl rfl rfl (by decide +kernel) ⟨Nat.le_of_ble_eq_true rfl, Nat.le_of_ble_eq_true rfl⟩) ⟨fun a U g mk q => ⟨q.1, PC.mv q.2⟩, va_recv hK hP (ci := 2) (q0 := 7) rfl rfl, fun U hU hW => ⟨rfl, PC.of hU hW hPc hK hDc hN⟩⟩ rfl rfl hl.1 rfl (lv_room (Nat.le_of_ble_eq_true rfl)) dX5_lentInVain_71 ⟨Nat.zero_le _, Nat.zero_le _⟩) hS (fun q _ h => hFc q h) hFc (fun r_71 u t H1 locs ht hvm hw hB hz1 hk1 hS => ?_)
        obtain ⟨hP1, hD1⟩ := hB
        try dsimp only at hw
        rw [hw]
        rw [ht] at hP1
        have hP : va_P (dC, dI) vwCl [(p_this, .inr (5, [.ref p_text, .ref p_reader, .ref p_told, .ref p_draft, .ref p_now, .ref p_imageZero, .ref p_imageOne, .ref p_slots, .ref p_placesOf, .int d_keptImages, .long d_traced])), (p_now, .inr (0, [.ref p_now_mounts, .ref p_now_lendings, .ref p_now_log, .ref p_now_undos])), (p_now_lendings, .inr (2, [.int d_now_lendings_most, .ref p_now_lendings_cells, .int d_now_lendings_many])), (p_now_lendings_cells, .inl (cI, 48, .inl d_now_lendings_cells)), (p_now_mounts, .inr (2, [.int d_now_mounts_most, .ref p_now_mounts_cells, .int d_now_mounts_many])), (p_now_mounts_cells, .inl (cI, 48, .inl d_now_mounts_cells)), (p_told, .inr (4, [.ref p_told_dishes, .ref p_told_speakers, .ref p_told_noises, .ref p_told_askers])), (p_told_askers, .inr (2, [.int d_told_askers_most, .ref p_told_askers_cells, .int d_told_askers_many])), (p_told_askers_cells, .inl (cI, 48, .inl d_told_askers_cells))] H1 := join_ro hP hD [7, 8] rfl hk1 hP1
        clear hPc hDc hFc hk1 hz1 hP1 hD1 ht hvm
        generalize H1 = H at hP hS ⊢
        have J80 : ∀ (x1_80 : Int32) (H : Heap) (locs : List Loc), va_P (dC, dI) vwCl [(p_this, .inr (5, [.ref p_text, .ref p_reader, .ref p_told, .ref p_draft, .ref p_now, .ref p_imageZero, .ref p_imageOne, .ref p_slots, .ref p_placesOf, .int d_keptImages, .long d_traced])), (p_now, .inr (0, [.ref p_now_mounts, .ref p_now_lendings, .ref p_now_log, .ref p_now_undos])), (p_now_lendings, .inr (2, [.int d_now_lendings_most, .ref p_now_lendings_cells, .int d_now_lendings_many])), (p_now_lendings_cells, .inl (cI, 48, .inl d_now_lendings_cells)), (p_now_mounts, .inr (2, [.int d_now_mounts_most, .ref p_now_mounts_cells, .int d_now_mounts_many])), (p_now_mounts_cells, .inl (cI, 48, .inl d_now_mounts_cells)), (p_told, .inr (4, [.ref p_told_dishes, .ref p_told_speakers, .ref p_told_noises, .ref p_told_askers])), (p_told_askers, .inr (2, [.int d_told_askers_most, .ref p_told_askers_cells, .int d_told_askers_many])), (p_told_askers_cells, .inl (cI, 48, .inl d_told_askers_cells))] H → va_D A [(p_this, .inr (5, [.ref p_text, .ref p_reader, .ref p_told, .ref p_draft, .ref p_now, .ref p_imageZero, .ref p_imageOne, .ref p_slots, .ref p_placesOf, .int d_keptImages, .long d_traced])), (p_now, .inr (0, [.ref p_now_mounts, .ref p_now_lendings, .ref p_now_log, .ref p_now_undos])), (p_now_lendings, .inr (2, [.int d_now_lendings_most, .ref p_now_lendings_cells, .int d_now_lendings_many])), (p_now_lendings_cells, .inl (cI, 48, .inl d_now_lendings_cells)), (p_now_mounts, .inr (2, [.int d_now_mounts_most, .ref p_now_mounts_cells, .int d_now_mounts_many])), (p_now_mounts_cells, .inl (cI, 48, .inl d_now_mounts_cells)), (p_told, .inr (4, [.ref p_told_dishes, .ref p_told_speakers, .ref p_told_noises, .ref p_told_askers])), (p_told_askers, .inr (2, [.int d_told_askers_most, .ref p_told_askers_cells, .int d_told_askers_many])), (p_told_askers_cells, .inl (cI, 48, .inl d_told_askers_cells))] → va_S A s.heap H locs → ∀ ls : Array Slot, lv_has ls 4 [(0, .ref p_this), (1, .int x1_80), (2, .int x2_4)] → f_X5_lentInVain_J80 (f_X5_lentInVain_L4 d_now_lendings_many d_now_lendings_cells d_now_mounts_many d_now_mounts_cells d_told_askers_many d_told_askers_cells n9_4) x2_4 d_now_lendings_many d_now_lendings_cells d_now_mounts_many d_now_mounts_cells d_told_askers_many d_told_askers_cells x1_80 = some out → W p l e ({ frames := 3, cells := 0, slots := 0, locals := 66 } : Room) s m ([.ref p_this] : List Value).toArray below meth c H locs 0 0 Q (F0 m 80 ls []) := by
          intro x1_80 H locs hP hD hS ls hl hrun
          rw [f_X5_lentInVain_J80] at hrun
          refine lv_iinc (v := x2_4 + 1) (lv' := [(2, .int (x2_4 + 1)), (0, .ref p_this), (1, .int x1_80)]) hx hb dX5_lentInVain_80 hl (k := 2) rfl rfl (by decide) rfl (fun ls hl => ?_)
          refine lv_goto (tgt := 4) hx hb dX5_lentInVain_83 (by decide) ?_
          exact ih4 x1_80 (x2_4 + 1) H locs hP hD hS ls (lv_sub hl [1, 2, 0] rfl) hrun
        refine lv_icmp_eq (tgt := 80) hx hb dX5_lentInVain_74 (by decide) (fun c_74 => ?_) (fun c_74 => ?_)
        · rw [if_pos c_74] at hrun
          exact J80 x1_4 H locs hP hD hS ls (lv_sub hl [1, 2, 3] rfl) hrun
        · rw [if_neg c_74] at hrun
          refine lv_iinc (v := x1_4 + 1) (lv' := [(1, .int (x1_4 + 1)), (3, .int (f_X0_placeSeen d_now_mounts_many d_now_mounts_cells (f_X2_number d_now_lendings_many d_now_lendings_cells x2_4 0) (f_X2_number d_now_lendings_many d_now_lendings_cells x2_4 1))), (0, .ref p_this), (2, .int x2_4)]) hx hb dX5_lentInVain_77 hl (k := 2) rfl rfl (by decide) rfl (fun ls hl => ?_)
          exact J80 (x1_4 + 1) H locs hP hD hS ls (lv_sub hl [2, 0, 3] rfl) hrun
  exact L4 FU 0 0 H locs hP hD hS ls (lv_sub hl [2, 1, 0] rfl) hrun
-- SkyListeners.twice
def f_X5_twice (d_now_lendings_many : Int32) (d_now_lendings_cells : Nat → Int32) (d_now_mounts_many : Int32) (d_now_mounts_cells : Nat → Int32) (d_told_askers_many : Int32) (d_told_askers_cells : Nat → Int32) (x1 : Int32) : Option (Int32) := (if (f_X5_isBit x1) = 0 then (some (-1)) else (if x1 = 0 then ((f_X0_firstLentTwice d_now_lendings_many d_now_lendings_cells).bind fun q17 => (some q17)) else ((f_X5_lentInVain d_now_lendings_many d_now_lendings_cells d_now_mounts_many d_now_mounts_cells d_told_askers_many d_told_askers_cells).bind fun q24 => (some q24))))
set_option maxHeartbeats 4000000 in
set_option maxRecDepth 100000 in
theorem c_X5_twice (l : Launch) (dC : Nat → ClassId) (dI : Nat → Nat → Nat) (cI cZ : ClassId) (sz : Nat) (p_draft p_imageOne p_imageZero p_now p_now_lendings p_now_lendings_cells p_now_log p_now_mounts p_now_mounts_cells p_now_undos p_placesOf p_reader p_slots p_text p_this p_told p_told_askers p_told_askers_cells p_told_dishes p_told_noises p_told_speakers : Nat) (d_keptImages : Int32) (d_traced : Int64) (d_now_lendings_most : Int32) (d_now_lendings_many : Int32) (d_now_lendings_cells : Nat → Int32) (d_now_mounts_most : Int32) (d_now_mounts_many : Int32) (d_now_mounts_cells : Nat → Int32) (d_told_askers_most : Int32) (d_told_askers_many : Int32) (d_told_askers_cells : Nat → Int32) (x1 : Int32) (out : Int32) (hrun : f_X5_twice d_now_lendings_many d_now_lendings_cells d_now_mounts_many d_now_mounts_cells d_told_askers_many d_told_askers_cells x1 = some out) : Met l yX5_twice wsX5_twice ({ frames := 4, cells := 0, slots := 0, locals := 89 } : Room) (va_Pc [.ref p_this, .int x1] (PC dC dI cI cZ sz ([(p_this, .inr (5, [.ref p_text, .ref p_reader, .ref p_told, .ref p_draft, .ref p_now, .ref p_imageZero, .ref p_imageOne, .ref p_slots, .ref p_placesOf, .int d_keptImages, .long d_traced])), (p_now, .inr (0, [.ref p_now_mounts, .ref p_now_lendings, .ref p_now_log, .ref p_now_undos])), (p_now_lendings, .inr (2, [.int d_now_lendings_most, .ref p_now_lendings_cells, .int d_now_lendings_many])), (p_now_lendings_cells, .inl (cI, 48, .inl d_now_lendings_cells)), (p_now_mounts, .inr (2, [.int d_now_mounts_most, .ref p_now_mounts_cells, .int d_now_mounts_many])), (p_now_mounts_cells, .inl (cI, 48, .inl d_now_mounts_cells)), (p_told, .inr (4, [.ref p_told_dishes, .ref p_told_speakers, .ref p_told_noises, .ref p_told_askers])), (p_told_askers, .inr (2, [.int d_told_askers_most, .ref p_told_askers_cells, .int d_told_askers_many])), (p_told_askers_cells, .inl (cI, 48, .inl d_told_askers_cells))] : va_W))) (va_Qi (fun r (_ : Unit) => r = out) (fun _ t => va_P (dC, dI) vwCl [(p_this, .inr (5, [.ref p_text, .ref p_reader, .ref p_told, .ref p_draft, .ref p_now, .ref p_imageZero, .ref p_imageOne, .ref p_slots, .ref p_placesOf, .int d_keptImages, .long d_traced])), (p_now, .inr (0, [.ref p_now_mounts, .ref p_now_lendings, .ref p_now_log, .ref p_now_undos])), (p_now_lendings, .inr (2, [.int d_now_lendings_most, .ref p_now_lendings_cells, .int d_now_lendings_many])), (p_now_lendings_cells, .inl (cI, 48, .inl d_now_lendings_cells)), (p_now_mounts, .inr (2, [.int d_now_mounts_most, .ref p_now_mounts_cells, .int d_now_mounts_many])), (p_now_mounts_cells, .inl (cI, 48, .inl d_now_mounts_cells)), (p_told, .inr (4, [.ref p_told_dishes, .ref p_told_speakers, .ref p_told_noises, .ref p_told_askers])), (p_told_askers, .inr (2, [.int d_told_askers_most, .ref p_told_askers_cells, .int d_told_askers_many])), (p_told_askers_cells, .inl (cI, 48, .inl d_told_askers_cells))] t.heap ∧ va_D (va_A ([(p_this, .inr (5, [.ref p_text, .ref p_reader, .ref p_told, .ref p_draft, .ref p_now, .ref p_imageZero, .ref p_imageOne, .ref p_slots, .ref p_placesOf, .int d_keptImages, .long d_traced])), (p_now, .inr (0, [.ref p_now_mounts, .ref p_now_lendings, .ref p_now_log, .ref p_now_undos])), (p_now_lendings, .inr (2, [.int d_now_lendings_most, .ref p_now_lendings_cells, .int d_now_lendings_many])), (p_now_lendings_cells, .inl (cI, 48, .inl d_now_lendings_cells)), (p_now_mounts, .inr (2, [.int d_now_mounts_most, .ref p_now_mounts_cells, .int d_now_mounts_many])), (p_now_mounts_cells, .inl (cI, 48, .inl d_now_mounts_cells)), (p_told, .inr (4, [.ref p_told_dishes, .ref p_told_speakers, .ref p_told_noises, .ref p_told_askers])), (p_told_askers, .inr (2, [.int d_told_askers_most, .ref p_told_askers_cells, .int d_told_askers_many])), (p_told_askers_cells, .inl (cI, 48, .inl d_told_askers_cells))] : va_W) sz) [(p_this, .inr (5, [.ref p_text, .ref p_reader, .ref p_told, .ref p_draft, .ref p_now, .ref p_imageZero, .ref p_imageOne, .ref p_slots, .ref p_placesOf, .int d_keptImages, .long d_traced])), (p_now, .inr (0, [.ref p_now_mounts, .ref p_now_lendings, .ref p_now_log, .ref p_now_undos])), (p_now_lendings, .inr (2, [.int d_now_lendings_most, .ref p_now_lendings_cells, .int d_now_lendings_many])), (p_now_lendings_cells, .inl (cI, 48, .inl d_now_lendings_cells)), (p_now_mounts, .inr (2, [.int d_now_mounts_most, .ref p_now_mounts_cells, .int d_now_mounts_many])), (p_now_mounts_cells, .inl (cI, 48, .inl d_now_mounts_cells)), (p_told, .inr (4, [.ref p_told_dishes, .ref p_told_speakers, .ref p_told_noises, .ref p_told_askers])), (p_told_askers, .inr (2, [.int d_told_askers_most, .ref p_told_askers_cells, .int d_told_askers_many])), (p_told_askers_cells, .inl (cI, 48, .inl d_told_askers_cells))]) (va_A ([(p_this, .inr (5, [.ref p_text, .ref p_reader, .ref p_told, .ref p_draft, .ref p_now, .ref p_imageZero, .ref p_imageOne, .ref p_slots, .ref p_placesOf, .int d_keptImages, .long d_traced])), (p_now, .inr (0, [.ref p_now_mounts, .ref p_now_lendings, .ref p_now_log, .ref p_now_undos])), (p_now_lendings, .inr (2, [.int d_now_lendings_most, .ref p_now_lendings_cells, .int d_now_lendings_many])), (p_now_lendings_cells, .inl (cI, 48, .inl d_now_lendings_cells)), (p_now_mounts, .inr (2, [.int d_now_mounts_most, .ref p_now_mounts_cells, .int d_now_mounts_many])), (p_now_mounts_cells, .inl (cI, 48, .inl d_now_mounts_cells)), (p_told, .inr (4, [.ref p_told_dishes, .ref p_told_speakers, .ref p_told_noises, .ref p_told_askers])), (p_told_askers, .inr (2, [.int d_told_askers_most, .ref p_told_askers_cells, .int d_told_askers_many])), (p_told_askers_cells, .inl (cI, 48, .inl d_told_askers_cells))] : va_W) sz)) 0 0 (va_A ([(p_this, .inr (5, [.ref p_text, .ref p_reader, .ref p_told, .ref p_draft, .ref p_now, .ref p_imageZero, .ref p_imageOne, .ref p_slots, .ref p_placesOf, .int d_keptImages, .long d_traced])), (p_now, .inr (0, [.ref p_now_mounts, .ref p_now_lendings, .ref p_now_log, .ref p_now_undos])), (p_now_lendings, .inr (2, [.int d_now_lendings_most, .ref p_now_lendings_cells, .int d_now_lendings_many])), (p_now_lendings_cells, .inl (cI, 48, .inl d_now_lendings_cells)), (p_now_mounts, .inr (2, [.int d_now_mounts_most, .ref p_now_mounts_cells, .int d_now_mounts_many])), (p_now_mounts_cells, .inl (cI, 48, .inl d_now_mounts_cells)), (p_told, .inr (4, [.ref p_told_dishes, .ref p_told_speakers, .ref p_told_noises, .ref p_told_askers])), (p_told_askers, .inr (2, [.int d_told_askers_most, .ref p_told_askers_cells, .int d_told_askers_many])), (p_told_askers_cells, .inl (cI, 48, .inl d_told_askers_cells))] : va_W) sz) := by
  refine Met.ofW (cc := cX5_twice) (maxL := 2) (ret := (some .int)) (by decide) rfl ?_
  intro p e s m args below meth c s₁ B hml hv
  obtain ⟨rfl, hsz, hP, hK, hD0, hN⟩ := hv
  have hx := B.exec
  have hb := B.bytes
  have hr := B.returns
  have hts := atoms_spec (ws := wsX5_twice) B.pre
  have hown : s.vm.findClass RX5 = some m.cls := findClass_of_methodNamed B.named
  have hlocks := B.notSynchronized
  subst hsz
  have hD := hD0.self (sz := s.heap.size)
  generalize hAe : va_A ([(p_this, .inr (5, [.ref p_text, .ref p_reader, .ref p_told, .ref p_draft, .ref p_now, .ref p_imageZero, .ref p_imageOne, .ref p_slots, .ref p_placesOf, .int d_keptImages, .long d_traced])), (p_now, .inr (0, [.ref p_now_mounts, .ref p_now_lendings, .ref p_now_log, .ref p_now_undos])), (p_now_lendings, .inr (2, [.int d_now_lendings_most, .ref p_now_lendings_cells, .int d_now_lendings_many])), (p_now_lendings_cells, .inl (cI, 48, .inl d_now_lendings_cells)), (p_now_mounts, .inr (2, [.int d_now_mounts_most, .ref p_now_mounts_cells, .int d_now_mounts_many])), (p_now_mounts_cells, .inl (cI, 48, .inl d_now_mounts_cells)), (p_told, .inr (4, [.ref p_told_dishes, .ref p_told_speakers, .ref p_told_noises, .ref p_told_askers])), (p_told_askers, .inr (2, [.int d_told_askers_most, .ref p_told_askers_cells, .int d_told_askers_many])), (p_told_askers_cells, .inl (cI, 48, .inl d_told_askers_cells))] : va_W) s.heap.size = A at hD ⊢
  have hA : ∀ q : Nat, s.heap.size ≤ q → A q := fun q h => by rw [← hAe]; exact Or.inr h
  have hS : va_S A s.heap s.heap [] := va_S.rf
  refine W_abs (fun Q hQ => ?_)
  have hl := lv_entry ([.ref p_this, .int x1]) (n := 2) (Nat.le_of_ble_eq_true rfl)
  rw [lg_entry_eq]
  generalize (lg_sl ([.ref p_this, .int x1]) ++ List.replicate (2 - (lg_sl ([.ref p_this, .int x1])).length) Slot.unset).toArray = ls at hl ⊢
  have hl : lv_has ls 2 [(0, .ref p_this), (1, .int x1)] := hl
  rw [f_X5_twice] at hrun
  refine W_start (ws := [(p_this, .inr (5, [.ref p_text, .ref p_reader, .ref p_told, .ref p_draft, .ref p_now, .ref p_imageZero, .ref p_imageOne, .ref p_slots, .ref p_placesOf, .int d_keptImages, .long d_traced])), (p_now, .inr (0, [.ref p_now_mounts, .ref p_now_lendings, .ref p_now_log, .ref p_now_undos])), (p_now_lendings, .inr (2, [.int d_now_lendings_most, .ref p_now_lendings_cells, .int d_now_lendings_many])), (p_now_lendings_cells, .inl (cI, 48, .inl d_now_lendings_cells)), (p_now_mounts, .inr (2, [.int d_now_mounts_most, .ref p_now_mounts_cells, .int d_now_mounts_many])), (p_now_mounts_cells, .inl (cI, 48, .inl d_now_mounts_cells)), (p_told, .inr (4, [.ref p_told_dishes, .ref p_told_speakers, .ref p_told_noises, .ref p_told_askers])), (p_told_askers, .inr (2, [.int d_told_askers_most, .ref p_told_askers_cells, .int d_told_askers_many])), (p_told_askers_cells, .inl (cI, 48, .inl d_told_askers_cells))]) hP hS (fun H locs hP hS => ?_)
  have iwX5 : ∀ w ∈ wsX50, w ∈ wsX5_twice := by decide +kernel
  refine lv_iload_n hx hb dX5_twice_0 rfl (lv_at hl 1 rfl) ?_
  have hPc : va_P (dC, dI) vwCl [] H := hP.sub [] rfl
  have hDc : va_D A [] := hD.sub [] (by decide) rfl
  have hFc := va_free (wc := []) hD hS hA [] rfl
  refine va_calli (va_runS (As := [.int x1]) (rest := []) ⟨hx, hb, hml, hown, hts⟩ (c_X5_isBit l dC dI cI cZ H.size x1 (f_X5_isBit x1) rfl) (va_cwS 1 hts gX5_twice_X5_isBit rfl rfl rfl (by decide +kernel) ⟨Nat.le_of_ble_eq_true rfl, Nat.le_of_ble_eq_true rfl⟩) ⟨fun a U g mk q => ⟨q.1, PC.mv q.2⟩, fun U hU hW => ⟨rfl, PC.of hU hW hPc hK hDc hN⟩⟩ rfl rfl hl.1 rfl (lv_room (Nat.le_of_ble_eq_true rfl)) dX5_twice_1 ⟨Nat.zero_le _, Nat.zero_le _⟩) hS (fun q _ h => hFc q h) hFc (fun r_1 u t H1 locs ht hvm hw hB hz1 hk1 hS => ?_)
  obtain ⟨hP1, hD1⟩ := hB
  try dsimp only at hw
  rw [hw]
  rw [ht] at hP1
  have hP : va_P (dC, dI) vwCl [(p_this, .inr (5, [.ref p_text, .ref p_reader, .ref p_told, .ref p_draft, .ref p_now, .ref p_imageZero, .ref p_imageOne, .ref p_slots, .ref p_placesOf, .int d_keptImages, .long d_traced])), (p_now, .inr (0, [.ref p_now_mounts, .ref p_now_lendings, .ref p_now_log, .ref p_now_undos])), (p_now_lendings, .inr (2, [.int d_now_lendings_most, .ref p_now_lendings_cells, .int d_now_lendings_many])), (p_now_lendings_cells, .inl (cI, 48, .inl d_now_lendings_cells)), (p_now_mounts, .inr (2, [.int d_now_mounts_most, .ref p_now_mounts_cells, .int d_now_mounts_many])), (p_now_mounts_cells, .inl (cI, 48, .inl d_now_mounts_cells)), (p_told, .inr (4, [.ref p_told_dishes, .ref p_told_speakers, .ref p_told_noises, .ref p_told_askers])), (p_told_askers, .inr (2, [.int d_told_askers_most, .ref p_told_askers_cells, .int d_told_askers_many])), (p_told_askers_cells, .inl (cI, 48, .inl d_told_askers_cells))] H1 := join_ro hP hD [] rfl hk1 hP1
  clear hPc hDc hFc hk1 hz1 hP1 hD1 ht hvm
  generalize H1 = H at hP hS ⊢
  refine lv_if_ne (tgt := 9) hx hb dX5_twice_4 (by decide) (fun c_4 => ?_) (fun c_4 => ?_)
  · rw [if_neg c_4] at hrun
    refine lv_iload_n hx hb dX5_twice_9 rfl (lv_at hl 1 rfl) ?_
    refine lv_if_ne (tgt := 23) hx hb dX5_twice_10 (by decide) (fun c_10 => ?_) (fun c_10 => ?_)
    · rw [if_neg c_10] at hrun
      refine lv_aload_n hx hb dX5_twice_23 rfl (lv_at hl 0 rfl) ?_
      obtain ⟨q24, hq24, hrun⟩ := bind_out hrun
      have hPc : va_P (dC, dI) vwCl [(p_this, .inr (5, [.ref p_text, .ref p_reader, .ref p_told, .ref p_draft, .ref p_now, .ref p_imageZero, .ref p_imageOne, .ref p_slots, .ref p_placesOf, .int d_keptImages, .long d_traced])), (p_now, .inr (0, [.ref p_now_mounts, .ref p_now_lendings, .ref p_now_log, .ref p_now_undos])), (p_now_lendings, .inr (2, [.int d_now_lendings_most, .ref p_now_lendings_cells, .int d_now_lendings_many])), (p_now_lendings_cells, .inl (cI, 48, .inl d_now_lendings_cells)), (p_now_mounts, .inr (2, [.int d_now_mounts_most, .ref p_now_mounts_cells, .int d_now_mounts_many])), (p_now_mounts_cells, .inl (cI, 48, .inl d_now_mounts_cells)), (p_told, .inr (4, [.ref p_told_dishes, .ref p_told_speakers, .ref p_told_noises, .ref p_told_askers])), (p_told_askers, .inr (2, [.int d_told_askers_most, .ref p_told_askers_cells, .int d_told_askers_many])), (p_told_askers_cells, .inl (cI, 48, .inl d_told_askers_cells))] H := hP.sub [0, 1, 2, 3, 4, 5, 6, 7, 8] rfl
      have hDc : va_D A [(p_this, .inr (5, [.ref p_text, .ref p_reader, .ref p_told, .ref p_draft, .ref p_now, .ref p_imageZero, .ref p_imageOne, .ref p_slots, .ref p_placesOf, .int d_keptImages, .long d_traced])), (p_now, .inr (0, [.ref p_now_mounts, .ref p_now_lendings, .ref p_now_log, .ref p_now_undos])), (p_now_lendings, .inr (2, [.int d_now_lendings_most, .ref p_now_lendings_cells, .int d_now_lendings_many])), (p_now_lendings_cells, .inl (cI, 48, .inl d_now_lendings_cells)), (p_now_mounts, .inr (2, [.int d_now_mounts_most, .ref p_now_mounts_cells, .int d_now_mounts_many])), (p_now_mounts_cells, .inl (cI, 48, .inl d_now_mounts_cells)), (p_told, .inr (4, [.ref p_told_dishes, .ref p_told_speakers, .ref p_told_noises, .ref p_told_askers])), (p_told_askers, .inr (2, [.int d_told_askers_most, .ref p_told_askers_cells, .int d_told_askers_many])), (p_told_askers_cells, .inl (cI, 48, .inl d_told_askers_cells))] := hD.sub [0, 1, 2, 3, 4, 5, 6, 7, 8] (by decide) rfl
      have hFc := va_free (wc := [(p_this, .inr (5, [.ref p_text, .ref p_reader, .ref p_told, .ref p_draft, .ref p_now, .ref p_imageZero, .ref p_imageOne, .ref p_slots, .ref p_placesOf, .int d_keptImages, .long d_traced])), (p_now, .inr (0, [.ref p_now_mounts, .ref p_now_lendings, .ref p_now_log, .ref p_now_undos])), (p_now_lendings, .inr (2, [.int d_now_lendings_most, .ref p_now_lendings_cells, .int d_now_lendings_many])), (p_now_lendings_cells, .inl (cI, 48, .inl d_now_lendings_cells)), (p_now_mounts, .inr (2, [.int d_now_mounts_most, .ref p_now_mounts_cells, .int d_now_mounts_many])), (p_now_mounts_cells, .inl (cI, 48, .inl d_now_mounts_cells)), (p_told, .inr (4, [.ref p_told_dishes, .ref p_told_speakers, .ref p_told_noises, .ref p_told_askers])), (p_told_askers, .inr (2, [.int d_told_askers_most, .ref p_told_askers_cells, .int d_told_askers_many])), (p_told_askers_cells, .inl (cI, 48, .inl d_told_askers_cells))]) hD hS hA [0, 1, 2, 3, 4, 5, 6, 7, 8] rfl
      refine va_calli (va_runV (As := []) (rest := []) ⟨hx, hb, hml, hown, hts⟩ (c_X5_lentInVain l dC dI cI cZ H.size p_draft p_imageOne p_imageZero p_now p_now_lendings p_now_lendings_cells p_now_log p_now_mounts p_now_mounts_cells p_now_undos p_placesOf p_reader p_slots p_text p_this p_told p_told_askers p_told_askers_cells p_told_dishes p_told_noises p_told_speakers d_keptImages d_traced d_now_lendings_most d_now_lendings_many d_now_lendings_cells d_now_mounts_most d_now_mounts_many d_now_mounts_cells d_told_askers_most d_told_askers_many d_told_askers_cells q24 hq24) (cwV 0 hts gX5_twice_X5_lentInVain rfl rfl rfl (by decide +kernel) ⟨Nat.le_of_ble_eq_true rfl, Nat.le_of_ble_eq_true rfl⟩) ⟨fun a U g mk q => ⟨q.1, PC.mv q.2⟩, va_recv hK hP (ci := 5) (q0 := 0) rfl rfl, fun U hU hW => ⟨rfl, PC.of hU hW hPc hK hDc hN⟩⟩ rfl rfl hl.1 rfl (lv_room (Nat.le_of_ble_eq_true rfl)) dX5_twice_24 ⟨Nat.zero_le _, Nat.zero_le _⟩) hS (fun q _ h => hFc q h) hFc (fun r_24 u t H1 locs ht hvm hw hB hz1 hk1 hS => ?_)
      obtain ⟨hP1, hD1⟩ := hB
      try dsimp only at hw
      rw [hw]
      rw [ht] at hP1
      have hP : va_P (dC, dI) vwCl [(p_this, .inr (5, [.ref p_text, .ref p_reader, .ref p_told, .ref p_draft, .ref p_now, .ref p_imageZero, .ref p_imageOne, .ref p_slots, .ref p_placesOf, .int d_keptImages, .long d_traced])), (p_now, .inr (0, [.ref p_now_mounts, .ref p_now_lendings, .ref p_now_log, .ref p_now_undos])), (p_now_lendings, .inr (2, [.int d_now_lendings_most, .ref p_now_lendings_cells, .int d_now_lendings_many])), (p_now_lendings_cells, .inl (cI, 48, .inl d_now_lendings_cells)), (p_now_mounts, .inr (2, [.int d_now_mounts_most, .ref p_now_mounts_cells, .int d_now_mounts_many])), (p_now_mounts_cells, .inl (cI, 48, .inl d_now_mounts_cells)), (p_told, .inr (4, [.ref p_told_dishes, .ref p_told_speakers, .ref p_told_noises, .ref p_told_askers])), (p_told_askers, .inr (2, [.int d_told_askers_most, .ref p_told_askers_cells, .int d_told_askers_many])), (p_told_askers_cells, .inl (cI, 48, .inl d_told_askers_cells))] H1 := join_ro hP hD [0, 1, 2, 3, 4, 5, 6, 7, 8] rfl hk1 hP1
      clear hPc hDc hFc hk1 hz1 hP1 hD1 ht hvm
      generalize H1 = H at hP hS ⊢
      have hrun := Option.some.inj hrun
      subst hrun
      rw [hQ]
      exact W.iret (v := q24) hx hb hr (fun t ht hW => ⟨⟨q24, (), rfl, rfl, by rw [ht]; exact hP, hD⟩, hS.F ht⟩) hS.2.2 dX5_twice_27
    · rw [if_pos c_10] at hrun
      refine lv_aload_n hx hb dX5_twice_13 rfl (lv_at hl 0 rfl) ?_
      refine va_get (D := (dC, dI)) (ci := 5) (v := .ref p_now) (C := RX5) (T := TX5) (N := 11) hx hb hts iwX5 hown hK hP 0 rfl rfl 4 (by decide) (hts (.fieldLink RX5 36 "SkyListeners" "now" "LSkyListeners$Now;") (by decide +kernel)) (fun _ h9 => h9) rfl dX5_twice_14 ?_
      obtain ⟨q17, hq17, hrun⟩ := bind_out hrun
      have hPc : va_P (dC, dI) vwCl [(p_now, .inr (0, [.ref p_now_mounts, .ref p_now_lendings, .ref p_now_log, .ref p_now_undos])), (p_now_lendings, .inr (2, [.int d_now_lendings_most, .ref p_now_lendings_cells, .int d_now_lendings_many])), (p_now_lendings_cells, .inl (cI, 48, .inl d_now_lendings_cells))] H := hP.sub [1, 2, 3] rfl
      have hDc : va_D A [(p_now, .inr (0, [.ref p_now_mounts, .ref p_now_lendings, .ref p_now_log, .ref p_now_undos])), (p_now_lendings, .inr (2, [.int d_now_lendings_most, .ref p_now_lendings_cells, .int d_now_lendings_many])), (p_now_lendings_cells, .inl (cI, 48, .inl d_now_lendings_cells))] := hD.sub [1, 2, 3] (by decide) rfl
      have hFc := va_free (wc := [(p_now, .inr (0, [.ref p_now_mounts, .ref p_now_lendings, .ref p_now_log, .ref p_now_undos])), (p_now_lendings, .inr (2, [.int d_now_lendings_most, .ref p_now_lendings_cells, .int d_now_lendings_many])), (p_now_lendings_cells, .inl (cI, 48, .inl d_now_lendings_cells))]) hD hS hA [1, 2, 3] rfl
      refine va_calli (va_runV (As := []) (rest := []) ⟨hx, hb, hml, hown, hts⟩ (c_X0_firstLentTwice l dC dI cI cZ H.size p_now_lendings p_now_lendings_cells p_now_log p_now_mounts p_now p_now_undos d_now_lendings_most d_now_lendings_many d_now_lendings_cells q17 hq17) (cwV 0 hts gX5_twice_X0_firstLentTwice rfl rfl rfl (by decide +kernel) ⟨Nat.le_of_ble_eq_true rfl, Nat.le_of_ble_eq_true rfl⟩) ⟨fun a U g mk q => ⟨q.1, PC.mv q.2⟩, va_recv hK hP (ci := 0) (q0 := 1) rfl rfl, fun U hU hW => ⟨rfl, PC.of hU hW hPc hK hDc hN⟩⟩ rfl rfl hl.1 rfl (lv_room (Nat.le_of_ble_eq_true rfl)) dX5_twice_17 ⟨Nat.zero_le _, Nat.zero_le _⟩) hS (fun q _ h => hFc q h) hFc (fun r_17 u t H1 locs ht hvm hw hB hz1 hk1 hS => ?_)
      obtain ⟨hP1, hD1⟩ := hB
      try dsimp only at hw
      rw [hw]
      rw [ht] at hP1
      have hP : va_P (dC, dI) vwCl [(p_this, .inr (5, [.ref p_text, .ref p_reader, .ref p_told, .ref p_draft, .ref p_now, .ref p_imageZero, .ref p_imageOne, .ref p_slots, .ref p_placesOf, .int d_keptImages, .long d_traced])), (p_now, .inr (0, [.ref p_now_mounts, .ref p_now_lendings, .ref p_now_log, .ref p_now_undos])), (p_now_lendings, .inr (2, [.int d_now_lendings_most, .ref p_now_lendings_cells, .int d_now_lendings_many])), (p_now_lendings_cells, .inl (cI, 48, .inl d_now_lendings_cells)), (p_now_mounts, .inr (2, [.int d_now_mounts_most, .ref p_now_mounts_cells, .int d_now_mounts_many])), (p_now_mounts_cells, .inl (cI, 48, .inl d_now_mounts_cells)), (p_told, .inr (4, [.ref p_told_dishes, .ref p_told_speakers, .ref p_told_noises, .ref p_told_askers])), (p_told_askers, .inr (2, [.int d_told_askers_most, .ref p_told_askers_cells, .int d_told_askers_many])), (p_told_askers_cells, .inl (cI, 48, .inl d_told_askers_cells))] H1 := join_ro hP hD [1, 2, 3] rfl hk1 hP1
      clear hPc hDc hFc hk1 hz1 hP1 hD1 ht hvm
      generalize H1 = H at hP hS ⊢
      refine lv_goto (tgt := 27) hx hb dX5_twice_20 (by decide) ?_
      have hrun := Option.some.inj hrun
      subst hrun
      rw [hQ]
      exact W.iret (v := q17) hx hb hr (fun t ht hW => ⟨⟨q17, (), rfl, rfl, by rw [ht]; exact hP, hD⟩, hS.F ht⟩) hS.2.2 dX5_twice_27
  · rw [if_pos c_4] at hrun
    refine lv_iconst (v := (-1)) hx hb dX5_twice_7 (by decide) ?_
    have hrun := Option.some.inj hrun
    subst hrun
    rw [hQ]
    exact W.iret (v := (-1)) hx hb hr (fun t ht hW => ⟨⟨(-1), (), rfl, rfl, by rw [ht]; exact hP, hD⟩, hS.F ht⟩) hS.2.2 dX5_twice_8
