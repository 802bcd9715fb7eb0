-- SkyListeners$Text.rewind
def f_X3_rewind (d_next : Int32) : Int32 := (0)
set_option maxHeartbeats 4000000 in
set_option maxRecDepth 100000 in
theorem c_X3_rewind (l : Launch) (dC : Nat → ClassId) (dI : Nat → Nat → Nat) (cI cZ : ClassId) (sz : Nat) (p_bytes p_this : Nat) (d_length : Int32) (d_next : Int32) (d_start : Int32) (d_token : Int32) (d_value : Int32) (out : Int32) (hrun : f_X3_rewind d_next = out) : Met l yX3_rewind wsX3_rewind ({ frames := 0, cells := 0, slots := 0, locals := 0 } : Room) (va_Pc [.ref p_this] (PC dC dI cI cZ sz ([(p_this, .inr (3, [.ref p_bytes, .int d_length, .int d_next, .int d_start, .int d_token, .int d_value]))] : va_W))) (va_Qv (fun (_ : Unit) => True) (fun _ t => va_P (dC, dI) vwCl [(p_this, .inr (3, [.ref p_bytes, .int d_length, .int out, .int d_start, .int d_token, .int d_value]))] t.heap ∧ va_D (va_A ([(p_this, .inr (3, [.ref p_bytes, .int d_length, .int d_next, .int d_start, .int d_token, .int d_value]))] : va_W) sz) [(p_this, .inr (3, [.ref p_bytes, .int d_length, .int out, .int d_start, .int d_token, .int d_value]))]) (va_A ([(p_this, .inr (3, [.ref p_bytes, .int d_length, .int d_next, .int d_start, .int d_token, .int d_value]))] : va_W) sz)) 0 0 (va_A ([(p_this, .inr (3, [.ref p_bytes, .int d_length, .int d_next, .int d_start, .int d_token, .int d_value]))] : va_W) sz) := by
  refine Met.ofW (cc := cX3_rewind) (maxL := 1) (ret := none) (by decide) rfl ?_
  intro p e s m args below meth c s₁ B hml hv
  obtain ⟨rfl, hsz, hP, hK, hD0, hN⟩ := hv
  have hx := B.exec
  have hb := B.bytes
  have hr := B.returns
  have hts := atoms_spec (ws := wsX3_rewind) B.pre
  have hown : s.vm.findClass RX3 = some m.cls := findClass_of_methodNamed B.named
  have hlocks := B.notSynchronized
  subst hsz
  have hD := hD0.self (sz := s.heap.size)
  generalize hAe : va_A ([(p_this, .inr (3, [.ref p_bytes, .int d_length, .int d_next, .int d_start, .int d_token, .int d_value]))] : va_W) s.heap.size = A at hD ⊢
  have hA : ∀ q : Nat, s.heap.size ≤ q → A q := fun q h => by rw [← hAe]; exact Or.inr h
  have hS : va_S A s.heap s.heap [] := va_S.rf
  refine W_abs (fun Q hQ => ?_)
  have hl := lv_entry ([.ref p_this]) (n := 1) (Nat.le_of_ble_eq_true rfl)
  rw [lg_entry_eq]
  generalize (lg_sl ([.ref p_this]) ++ List.replicate (1 - (lg_sl ([.ref p_this])).length) Slot.unset).toArray = ls at hl ⊢
  have hl : lv_has ls 1 [(0, .ref p_this)] := hl
  rw [f_X3_rewind] at hrun
  refine W_start (ws := [(p_this, .inr (3, [.ref p_bytes, .int d_length, .int d_next, .int d_start, .int d_token, .int d_value]))]) hP hS (fun H locs hP hS => ?_)
  have iwX3 : ∀ w ∈ wsX30, w ∈ wsX3_rewind := by decide +kernel
  refine lv_aload_n hx hb dX3_rewind_0 rfl (lv_at hl 0 rfl) ?_
  refine lv_iconst (v := 0) hx hb dX3_rewind_1 (by decide) ?_
  refine va_put (D := (dC, dI)) (ci := 3) (v := .int 0) (ty := .int) (C := RX3) (T := TX3) (N := 6) hx hb hts iwX3 tyX3 tyX3_ok nmX3 hown hK hP hD hS 0 rfl rfl 2 (by decide) (hts (.fieldLink RX3 19 "SkyListeners$Text" "next" "I") (by decide +kernel)) (fun _ h9 => h9) rfl (by decide +kernel) rfl rfl (Nat.le_of_ble_eq_true rfl) dX3_rewind_2 (fun H locs hP hD hS => ?_)
  have hP : va_P (dC, dI) vwCl [(p_this, .inr (3, [.ref p_bytes, .int d_length, .int 0, .int d_start, .int d_token, .int d_value]))] H := hP
  have hD : va_D A [(p_this, .inr (3, [.ref p_bytes, .int d_length, .int 0, .int d_start, .int d_token, .int d_value]))] := hD
  have hrun := hrun
  subst hrun
  rw [hQ]
  exact W.vret hx hb hr (fun t ht hW => ⟨⟨(), rfl, trivial, by rw [ht]; exact hP, hD⟩, hS.F ht⟩) hS.2.2 dX3_rewind_5
-- SkyListeners$Text.isDigit
def f_X3_isDigit (d_length : Int32) (d_bytes : Nat → Int32) (x1 : Int32) : Int32 := (if d_length ≤ x1 then (0) else (if (f_X5_at 250 d_bytes x1) < 48 then (0) else (if 57 < (f_X5_at 250 d_bytes x1) then (0) else (1))))
theorem b_X3_isDigit (d_length : Int32) (d_bytes : Nat → Int32) (x1 : Int32) : f_X3_isDigit d_length d_bytes x1 = 0 ∨ f_X3_isDigit d_length d_bytes x1 = 1 := by unfold f_X3_isDigit; first | (repeat' split) <;> first | exact Or.inl rfl | exact Or.inr rfl
set_option maxHeartbeats 4000000 in
set_option maxRecDepth 100000 in
theorem c_X3_isDigit (l : Launch) (dC : Nat → ClassId) (dI : Nat → Nat → Nat) (cI cZ : ClassId) (sz : Nat) (p_bytes p_this : Nat) (d_length : Int32) (d_next : Int32) (d_start : Int32) (d_token : Int32) (d_value : Int32) (d_bytes : Nat → Int32) (x1 : Int32) (out : Int32) (hrun : f_X3_isDigit d_length d_bytes x1 = out) : Met l yX3_isDigit wsX3_isDigit ({ frames := 1, cells := 0, slots := 0, locals := 21 } : Room) (va_Pc [.ref p_this, .int x1] (PC dC dI cI cZ sz ([(p_this, .inr (3, [.ref p_bytes, .int d_length, .int d_next, .int d_start, .int d_token, .int d_value])), (p_bytes, .inl (cI, 250, .inl d_bytes))] : va_W))) (va_Qi (fun r (_ : Unit) => r = out) (fun _ t => va_P (dC, dI) vwCl [(p_this, .inr (3, [.ref p_bytes, .int d_length, .int d_next, .int d_start, .int d_token, .int d_value])), (p_bytes, .inl (cI, 250, .inl d_bytes))] t.heap ∧ va_D (va_A ([(p_this, .inr (3, [.ref p_bytes, .int d_length, .int d_next, .int d_start, .int d_token, .int d_value])), (p_bytes, .inl (cI, 250, .inl d_bytes))] : va_W) sz) [(p_this, .inr (3, [.ref p_bytes, .int d_length, .int d_next, .int d_start, .int d_token, .int d_value])), (p_bytes, .inl (cI, 250, .inl d_bytes))]) (va_A ([(p_this, .inr (3, [.ref p_bytes, .int d_length, .int d_next, .int d_start, .int d_token, .int d_value])), (p_bytes, .inl (cI, 250, .inl d_bytes))] : va_W) sz)) 0 0 (va_A ([(p_this, .inr (3, [.ref p_bytes, .int d_length, .int d_next, .int d_start, .int d_token, .int d_value])), (p_bytes, .inl (cI, 250, .inl d_bytes))] : va_W) sz) := by
  refine Met.ofW (cc := cX3_isDigit) (maxL := 2) (ret := (some .boolean)) (by decide) rfl ?_
  intro p e s m args below meth c s₁ B hml hv
  obtain ⟨rfl, hsz, hP, hK, hD0, hN⟩ := hv
  have hx := B.exec
  have hb := B.bytes
  have hr := B.returns
  have hts := atoms_spec (ws := wsX3_isDigit) B.pre
  have hown : s.vm.findClass RX3 = some m.cls := findClass_of_methodNamed B.named
  have hlocks := B.notSynchronized
  subst hsz
  have hD := hD0.self (sz := s.heap.size)
  generalize hAe : va_A ([(p_this, .inr (3, [.ref p_bytes, .int d_length, .int d_next, .int d_start, .int d_token, .int d_value])), (p_bytes, .inl (cI, 250, .inl d_bytes))] : va_W) s.heap.size = A at hD ⊢
  have hA : ∀ q : Nat, s.heap.size ≤ q → A q := fun q h => by rw [← hAe]; exact Or.inr h
  have hS : va_S A s.heap s.heap [] := va_S.rf
  refine W_abs (fun Q hQ => ?_)
  have hl := lv_entry ([.ref p_this, .int x1]) (n := 2) (Nat.le_of_ble_eq_true rfl)
  rw [lg_entry_eq]
  generalize (lg_sl ([.ref p_this, .int x1]) ++ List.replicate (2 - (lg_sl ([.ref p_this, .int x1])).length) Slot.unset).toArray = ls at hl ⊢
  have hl : lv_has ls 2 [(0, .ref p_this), (1, .int x1)] := hl
  rw [f_X3_isDigit] at hrun
  refine W_start (ws := [(p_this, .inr (3, [.ref p_bytes, .int d_length, .int d_next, .int d_start, .int d_token, .int d_value])), (p_bytes, .inl (cI, 250, .inl d_bytes))]) hP hS (fun H locs hP hS => ?_)
  have iwX3 : ∀ w ∈ wsX30, w ∈ wsX3_isDigit := by decide +kernel
  refine lv_iload_n hx hb dX3_isDigit_0 rfl (lv_at hl 1 rfl) ?_
  refine lv_aload_n hx hb dX3_isDigit_1 rfl (lv_at hl 0 rfl) ?_
  refine va_get (D := (dC, dI)) (ci := 3) (v := .int d_length) (C := RX3) (T := TX3) (N := 6) hx hb hts iwX3 hown hK hP 0 rfl rfl 1 (by decide) (hts (.fieldLink RX3 15 "SkyListeners$Text" "length" "I") (by decide +kernel)) (fun _ h9 => h9) rfl dX3_isDigit_2 ?_
  refine lv_icmp_ge (tgt := 38) hx hb dX3_isDigit_5 (by decide) (fun c_5 => ?_) (fun c_5 => ?_)
  · rw [if_pos c_5] at hrun
    refine lv_iconst (v := 0) hx hb dX3_isDigit_38 (by decide) ?_
    have hrun := hrun
    subst hrun
    rw [hQ]
    exact W.zret (v := 0) (ty := .boolean) hx hb hr rfl (fun t ht hW => ⟨⟨0, (), rfl, rfl, by rw [ht]; exact hP, hD⟩, hS.F ht⟩) hS.2.2 dX3_isDigit_39
  · rw [if_neg c_5] at hrun
    refine lv_aload_n hx hb dX3_isDigit_8 rfl (lv_at hl 0 rfl) ?_
    refine va_get (D := (dC, dI)) (ci := 3) (v := .ref p_bytes) (C := RX3) (T := TX3) (N := 6) hx hb hts iwX3 hown hK hP 0 rfl rfl 0 (by decide) (hts (.fieldLink RX3 9 "SkyListeners$Text" "bytes" "[I") (by decide +kernel)) (fun _ h9 => h9) rfl dX3_isDigit_9 ?_
    refine lv_iload_n hx hb dX3_isDigit_12 rfl (lv_at hl 1 rfl) ?_
    have hPc : va_P (dC, dI) vwCl [(p_bytes, .inl (cI, 250, .inl d_bytes))] H := hP.sub [1] rfl
    have hDc : va_D A [(p_bytes, .inl (cI, 250, .inl d_bytes))] := hD.sub [1] (by decide) rfl
    have hFc := va_free (wc := [(p_bytes, .inl (cI, 250, .inl d_bytes))]) hD hS hA [1] rfl
    refine va_calli (va_runSN (As := [.ref p_bytes, .int x1]) (rest := []) ⟨hx, hb, hml, hown, hts⟩ (c_X5_at l dC dI cI cZ H.size p_bytes 250 d_bytes x1 (by decide) (f_X5_at 250 d_bytes x1) rfl) ⟨va_cnB 2 hts gX3_isDigit_X5_at_n35 rfl rfl rfl hN.2.1 (hts (.initialized RX5) (by decide +kernel)) (by decide +kernel) ⟨Nat.le_of_ble_eq_true rfl, Nat.le_of_ble_eq_true rfl⟩, hts (.static yX5_at) (by decide +kernel), trivial⟩ ⟨fun a U g mk q => ⟨q.1, PC.mv q.2⟩, fun U hU hW => ⟨rfl, PC.of hU hW hPc hK hDc hN⟩⟩ rfl rfl hl.1 rfl (lv_room (Nat.le_of_ble_eq_true rfl)) dX3_isDigit_13 ⟨Nat.zero_le _, Nat.zero_le _⟩) hS (fun q _ h => hFc q h) hFc (fun r_13 u t H1 locs ht hvm hw hB hz1 hk1 hS => ?_)
    obtain ⟨hP1, hD1⟩ := hB
    try dsimp only at hw
    rw [hw]
    rw [ht] at hP1
    have hP : va_P (dC, dI) vwCl [(p_this, .inr (3, [.ref p_bytes, .int d_length, .int d_next, .int d_start, .int d_token, .int d_value])), (p_bytes, .inl (cI, 250, .inl d_bytes))] H1 := join_ro hP hD [1] rfl hk1 hP1
    clear hPc hDc hFc hk1 hz1 hP1 hD1 ht hvm
    generalize H1 = H at hP hS ⊢
    refine lv_bipush (v := 48) hx hb dX3_isDigit_16 (by decide) ?_
    refine lv_icmp_lt (tgt := 38) hx hb dX3_isDigit_18 (by decide) (fun c_18 => ?_) (fun c_18 => ?_)
    · rw [if_pos c_18] at hrun
      refine lv_iconst (v := 0) hx hb dX3_isDigit_38 (by decide) ?_
      have hrun := hrun
      subst hrun
      rw [hQ]
      exact W.zret (v := 0) (ty := .boolean) hx hb hr rfl (fun t ht hW => ⟨⟨0, (), rfl, rfl, by rw [ht]; exact hP, hD⟩, hS.F ht⟩) hS.2.2 dX3_isDigit_39
    · rw [if_neg c_18] at hrun
      refine lv_aload_n hx hb dX3_isDigit_21 rfl (lv_at hl 0 rfl) ?_
      refine va_get (D := (dC, dI)) (ci := 3) (v := .ref p_bytes) (C := RX3) (T := TX3) (N := 6) hx hb hts iwX3 hown hK hP 0 rfl rfl 0 (by decide) (hts (.fieldLink RX3 9 "SkyListeners$Text" "bytes" "[I") (by decide +kernel)) (fun _ h9 => h9) rfl dX3_isDigit_22 ?_
      refine lv_iload_n hx hb dX3_isDigit_25 rfl (lv_at hl 1 rfl) ?_
      have hPc : va_P (dC, dI) vwCl [(p_bytes, .inl (cI, 250, .inl d_bytes))] H := hP.sub [1] rfl
      have hDc : va_D A [(p_bytes, .inl (cI, 250, .inl d_bytes))] := hD.sub [1] (by decide) rfl
      have hFc := va_free (wc := [(p_bytes, .inl (cI, 250, .inl d_bytes))]) hD hS hA [1] rfl
      refine va_calli (va_runSN (As := [.ref p_bytes, .int x1]) (rest := []) ⟨hx, hb, hml, hown, hts⟩ (c_X5_at l dC dI cI cZ H.size p_bytes 250 d_bytes x1 (by decide) (f_X5_at 250 d_bytes x1) rfl) ⟨va_cnB 2 hts gX3_isDigit_X5_at_n35 rfl rfl rfl hN.2.1 (hts (.initialized RX5) (by decide +kernel)) (by decide +kernel) ⟨Nat.le_of_ble_eq_true rfl, Nat.le_of_ble_eq_true rfl⟩, hts (.static yX5_at) (by decide +kernel), trivial⟩ ⟨fun a U g mk q => ⟨q.1, PC.mv q.2⟩, fun U hU hW => ⟨rfl, PC.of hU hW hPc hK hDc hN⟩⟩ rfl rfl hl.1 rfl (lv_room (Nat.le_of_ble_eq_true rfl)) dX3_isDigit_26 ⟨Nat.zero_le _, Nat.zero_le _⟩) hS (fun q _ h => hFc q h) hFc (fun r_26 u t H1 locs ht hvm hw hB hz1 hk1 hS => ?_)
      obtain ⟨hP1, hD1⟩ := hB
      try dsimp only at hw
      rw [hw]
      rw [ht] at hP1
      have hP : va_P (dC, dI) vwCl [(p_this, .inr (3, [.ref p_bytes, .int d_length, .int d_next, .int d_start, .int d_token, .int d_value])), (p_bytes, .inl (cI, 250, .inl d_bytes))] H1 := join_ro hP hD [1] rfl hk1 hP1
      clear hPc hDc hFc hk1 hz1 hP1 hD1 ht hvm
      generalize H1 = H at hP hS ⊢
      refine lv_bipush (v := 57) hx hb dX3_isDigit_29 (by decide) ?_
      refine lv_icmp_gt (tgt := 38) hx hb dX3_isDigit_31 (by decide) (fun c_31 => ?_) (fun c_31 => ?_)
      · rw [if_pos c_31] at hrun
        refine lv_iconst (v := 0) hx hb dX3_isDigit_38 (by decide) ?_
        have hrun := hrun
        subst hrun
        rw [hQ]
        exact W.zret (v := 0) (ty := .boolean) hx hb hr rfl (fun t ht hW => ⟨⟨0, (), rfl, rfl, by rw [ht]; exact hP, hD⟩, hS.F ht⟩) hS.2.2 dX3_isDigit_39
      · rw [if_neg c_31] at hrun
        refine lv_iconst (v := 1) hx hb dX3_isDigit_34 (by decide) ?_
        refine lv_goto (tgt := 39) hx hb dX3_isDigit_35 (by decide) ?_
        have hrun := hrun
        subst hrun
        rw [hQ]
        exact W.zret (v := 1) (ty := .boolean) hx hb hr rfl (fun t ht hW => ⟨⟨1, (), rfl, rfl, by rw [ht]; exact hP, hD⟩, hS.F ht⟩) hS.2.2 dX3_isDigit_39
-- SkyListeners$Text.readNumber
def f_X3_readNumber_J126 (d_next : Int32) (d_token : Int32) (d_value : Int32) (t1 : Int32) : Option (Int32 × Int32 × Int32) := (some (d_next, t1, d_value))
def f_X3_readNumber_J105 (d_next : Int32) (d_token : Int32) (d_value : Int32) (t0 : Int32) : Option (Int32 × Int32 × Int32) := (if 99 < d_value then (f_X3_readNumber_J126 d_next d_token d_value 7) else (if t0 = 0 then (f_X3_readNumber_J126 d_next d_token d_value 4) else (f_X3_readNumber_J126 d_next d_token d_value 7)))
def f_X3_readNumber_X71 (d_start : Int32) (d_token : Int32) (d_bytes : Nat → Int32) (d_next : Int32) (d_value : Int32) : Option (Int32 × Int32 × Int32) := (if (f_X5_at 250 d_bytes d_start) = 48 then (if (d_next - d_start) ≤ 1 then (f_X3_readNumber_J105 d_next d_token d_value 0) else (f_X3_readNumber_J105 d_next d_token d_value 1)) else (f_X3_readNumber_J105 d_next d_token d_value 0))
def f_X3_readNumber_L5 (K71 : Int32 → Int32 → Option (Int32 × Int32 × Int32)) (d_length : Int32) (d_start : Int32) (d_token : Int32) (d_bytes : Nat → Int32) : Nat → Int32 → Int32 → Option (Int32 × Int32 × Int32)
  | 0, _, _ => none
  | n9 + 1, d_next, d_value => (if d_length ≤ d_next then (K71 d_next d_value) else (if (f_X3_isDigit d_length d_bytes d_next) = 0 then (K71 d_next d_value) else (f_X3_readNumber_L5 K71 d_length d_start d_token d_bytes n9 (d_next + 1) (if 100 < (((d_value * 10) + (f_X5_at 250 d_bytes d_next)) - 48) then 100 else (((d_value * 10) + (f_X5_at 250 d_bytes d_next)) - 48)))))
def f_X3_readNumber (d_length : Int32) (d_next : Int32) (d_start : Int32) (d_token : Int32) (d_value : Int32) (d_bytes : Nat → Int32) : Option (Int32 × Int32 × Int32) := (f_X3_readNumber_L5 (f_X3_readNumber_X71 d_start d_token d_bytes) d_length d_start d_token d_bytes FU d_next 0)
set_option maxHeartbeats 4000000 in
set_option maxRecDepth 100000 in
theorem c_X3_readNumber (l : Launch) (dC : Nat → ClassId) (dI : Nat → Nat → Nat) (cI cZ : ClassId) (sz : Nat) (p_bytes p_this : Nat) (d_length : Int32) (d_next : Int32) (d_start : Int32) (d_token : Int32) (d_value : Int32) (d_bytes : Nat → Int32) (out : Int32 × Int32 × Int32) (hrun : f_X3_readNumber d_length d_next d_start d_token d_value d_bytes = some out) : Met l yX3_readNumber wsX3_readNumber ({ frames := 2, cells := 0, slots := 0, locals := 42 } : Room) (va_Pc [.ref p_this] (PC dC dI cI cZ sz ([(p_this, .inr (3, [.ref p_bytes, .int d_length, .int d_next, .int d_start, .int d_token, .int d_value])), (p_bytes, .inl (cI, 250, .inl d_bytes))] : va_W))) (va_Qv (fun (_ : Unit) => True) (fun _ t => va_P (dC, dI) vwCl [(p_this, .inr (3, [.ref p_bytes, .int d_length, .int out.1, .int d_start, .int out.2.1, .int out.2.2])), (p_bytes, .inl (cI, 250, .inl d_bytes))] t.heap ∧ va_D (va_A ([(p_this, .inr (3, [.ref p_bytes, .int d_length, .int d_next, .int d_start, .int d_token, .int d_value])), (p_bytes, .inl (cI, 250, .inl d_bytes))] : va_W) sz) [(p_this, .inr (3, [.ref p_bytes, .int d_length, .int out.1, .int d_start, .int out.2.1, .int out.2.2])), (p_bytes, .inl (cI, 250, .inl d_bytes))]) (va_A ([(p_this, .inr (3, [.ref p_bytes, .int d_length, .int d_next, .int d_start, .int d_token, .int d_value])), (p_bytes, .inl (cI, 250, .inl d_bytes))] : va_W) sz)) 0 0 (va_A ([(p_this, .inr (3, [.ref p_bytes, .int d_length, .int d_next, .int d_start, .int d_token, .int d_value])), (p_bytes, .inl (cI, 250, .inl d_bytes))] : va_W) sz) := by
  refine Met.ofW (cc := cX3_readNumber) (maxL := 2) (ret := none) (by decide) rfl ?_
  intro p e s m args below meth c s₁ B hml hv
  obtain ⟨rfl, hsz, hP, hK, hD0, hN⟩ := hv
  have hx := B.exec
  have hb := B.bytes
  have hr := B.returns
  have hts := atoms_spec (ws := wsX3_readNumber) B.pre
  have hown : s.vm.findClass RX3 = some m.cls := findClass_of_methodNamed B.named
  have hlocks := B.notSynchronized
  subst hsz
  have hD := hD0.self (sz := s.heap.size)
  generalize hAe : va_A ([(p_this, .inr (3, [.ref p_bytes, .int d_length, .int d_next, .int d_start, .int d_token, .int d_value])), (p_bytes, .inl (cI, 250, .inl d_bytes))] : va_W) s.heap.size = A at hD ⊢
  have hA : ∀ q : Nat, s.heap.size ≤ q → A q := fun q h => by rw [← hAe]; exact Or.inr h
  have hS : va_S A s.heap s.heap [] := va_S.rf
  refine W_abs (fun Q hQ => ?_)
  have hl := lv_entry ([.ref p_this]) (n := 2) (Nat.le_of_ble_eq_true rfl)
  rw [lg_entry_eq]
  generalize (lg_sl ([.ref p_this]) ++ List.replicate (2 - (lg_sl ([.ref p_this])).length) Slot.unset).toArray = ls at hl ⊢
  have hl : lv_has ls 2 [(0, .ref p_this)] := hl
  rw [f_X3_readNumber] at hrun
  refine W_start (ws := [(p_this, .inr (3, [.ref p_bytes, .int d_length, .int d_next, .int d_start, .int d_token, .int d_value])), (p_bytes, .inl (cI, 250, .inl d_bytes))]) hP hS (fun H locs hP hS => ?_)
  have iwX3 : ∀ w ∈ wsX30, w ∈ wsX3_readNumber := by decide +kernel
  refine lv_aload_n hx hb dX3_readNumber_0 rfl (lv_at hl 0 rfl) ?_
  refine lv_iconst (v := 0) hx hb dX3_readNumber_1 (by decide) ?_
  refine va_put (D := (dC, dI)) (ci := 3) (v := .int 0) (ty := .int) (C := RX3) (T := TX3) (N := 6) hx hb hts iwX3 tyX3 tyX3_ok nmX3 hown hK hP hD hS 0 rfl rfl 5 (by decide) (hts (.fieldLink RX3 28 "SkyListeners$Text" "value" "I") (by decide +kernel)) (fun _ h9 => h9) rfl (by decide +kernel) rfl rfl (Nat.le_of_ble_eq_true rfl) dX3_readNumber_2 (fun H locs hP hD hS => ?_)
  have hP : va_P (dC, dI) vwCl [(p_this, .inr (3, [.ref p_bytes, .int d_length, .int d_next, .int d_start, .int d_token, .int 0])), (p_bytes, .inl (cI, 250, .inl d_bytes))] H := hP
  have hD : va_D A [(p_this, .inr (3, [.ref p_bytes, .int d_length, .int d_next, .int d_start, .int d_token, .int 0])), (p_bytes, .inl (cI, 250, .inl d_bytes))] := hD
  have X71 : ∀ (d_next_71 : Int32) (d_value_71 : Int32) (H : Heap) (locs : List Loc), va_P (dC, dI) vwCl [(p_this, .inr (3, [.ref p_bytes, .int d_length, .int d_next_71, .int d_start, .int d_token, .int d_value_71])), (p_bytes, .inl (cI, 250, .inl d_bytes))] H → va_D A [(p_this, .inr (3, [.ref p_bytes, .int d_length, .int d_next_71, .int d_start, .int d_token, .int d_value_71])), (p_bytes, .inl (cI, 250, .inl d_bytes))] → va_S A s.heap H locs → ∀ ls : Array Slot, lv_has ls 2 [(0, .ref p_this)] → f_X3_readNumber_X71 d_start d_token d_bytes d_next_71 d_value_71 = some out → W p l e ({ frames := 2, cells := 0, slots := 0, locals := 42 } : Room) s m ([.ref p_this] : List Value).toArray below meth c H locs 0 0 Q (F0 m 71 ls []) := by
    intro d_next_71 d_value_71 H locs hP hD hS ls hl hrun
    rw [f_X3_readNumber_X71] at hrun
    refine lv_aload_n hx hb dX3_readNumber_71 rfl (lv_at hl 0 rfl) ?_
    refine va_get (D := (dC, dI)) (ci := 3) (v := .ref p_bytes) (C := RX3) (T := TX3) (N := 6) hx hb hts iwX3 hown hK hP 0 rfl rfl 0 (by decide) (hts (.fieldLink RX3 9 "SkyListeners$Text" "bytes" "[I") (by decide +kernel)) (fun _ h9 => h9) rfl dX3_readNumber_72 ?_
    refine lv_aload_n hx hb dX3_readNumber_75 rfl (lv_at hl 0 rfl) ?_
    refine va_get (D := (dC, dI)) (ci := 3) (v := .int d_start) (C := RX3) (T := TX3) (N := 6) hx hb hts iwX3 hown hK hP 0 rfl rfl 3 (by decide) (hts (.fieldLink RX3 22 "SkyListeners$Text" "start" "I") (by decide +kernel)) (fun _ h9 => h9) rfl dX3_readNumber_76 ?_
    have hPc : va_P (dC, dI) vwCl [(p_bytes, .inl (cI, 250, .inl d_bytes))] H := hP.sub [1] rfl
    have hDc : va_D A [(p_bytes, .inl (cI, 250, .inl d_bytes))] := hD.sub [1] (by decide) rfl
    have hFc := va_free (wc := [(p_bytes, .inl (cI, 250, .inl d_bytes))]) hD hS hA [1] rfl
    refine va_calli (va_runSN (As := [.ref p_bytes, .int d_start]) (rest := []) ⟨hx, hb, hml, hown, hts⟩ (c_X5_at l dC dI cI cZ H.size p_bytes 250 d_bytes d_start (by decide) (f_X5_at 250 d_bytes d_start) rfl) ⟨va_cnB 2 hts gX3_readNumber_X5_at_n35 rfl rfl rfl hN.2.1 (hts (.initialized RX5) (by decide +kernel)) (by decide +kernel) ⟨Nat.le_of_ble_eq_true rfl, Nat.le_of_ble_eq_true rfl⟩, hts (.static yX5_at) (by decide +kernel), trivial⟩ ⟨fun a U g mk q => ⟨q.1, PC.mv q.2⟩, fun U hU hW => ⟨rfl, PC.of hU hW hPc hK hDc hN⟩⟩ rfl rfl hl.1 rfl (lv_room (Nat.le_of_ble_eq_true rfl)) dX3_readNumber_79 ⟨Nat.zero_le _, Nat.zero_le _⟩) hS (fun q _ h => hFc q h) hFc (fun r_79 u t H1 locs ht hvm hw hB hz1 hk1 hS => ?_)
    obtain ⟨hP1, hD1⟩ := hB
    try dsimp only at hw
    rw [hw]
    rw [ht] at hP1
    have hP : va_P (dC, dI) vwCl [(p_this, .inr (3, [.ref p_bytes, .int d_length, .int d_next_71, .int d_start, .int d_token, .int d_value_71])), (p_bytes, .inl (cI, 250, .inl d_bytes))] H1 := join_ro hP hD [1] rfl hk1 hP1
    clear hPc hDc hFc hk1 hz1 hP1 hD1 ht hvm
    generalize H1 = H at hP hS ⊢
    refine lv_bipush (v := 48) hx hb dX3_readNumber_82 (by decide) ?_
    have J105 : ∀ (t0_105 : Int32) (H : Heap) (locs : List Loc), va_P (dC, dI) vwCl [(p_this, .inr (3, [.ref p_bytes, .int d_length, .int d_next_71, .int d_start, .int d_token, .int d_value_71])), (p_bytes, .inl (cI, 250, .inl d_bytes))] H → va_D A [(p_this, .inr (3, [.ref p_bytes, .int d_length, .int d_next_71, .int d_start, .int d_token, .int d_value_71])), (p_bytes, .inl (cI, 250, .inl d_bytes))] → va_S A s.heap H locs → ∀ ls : Array Slot, lv_has ls 2 [(0, .ref p_this)] → f_X3_readNumber_J105 d_next_71 d_token d_value_71 t0_105 = some out → W p l e ({ frames := 2, cells := 0, slots := 0, locals := 42 } : Room) s m ([.ref p_this] : List Value).toArray below meth c H locs 0 0 Q (F0 m 105 ls [.int t0_105]) := by
      intro t0_105 H locs hP hD hS ls hl hrun
      rw [f_X3_readNumber_J105] at hrun
      refine lv_istore_n (lv' := [(1, .int t0_105), (0, .ref p_this)]) hx hb dX3_readNumber_105 rfl hl (by decide) rfl (fun ls hl => ?_)
      refine lv_aload_n hx hb dX3_readNumber_106 rfl (lv_at hl 1 rfl) ?_
      refine lv_aload_n hx hb dX3_readNumber_107 rfl (lv_at hl 1 rfl) ?_
      refine va_get (D := (dC, dI)) (ci := 3) (v := .int d_value_71) (C := RX3) (T := TX3) (N := 6) hx hb hts iwX3 hown hK hP 0 rfl rfl 5 (by decide) (hts (.fieldLink RX3 28 "SkyListeners$Text" "value" "I") (by decide +kernel)) (fun _ h9 => h9) rfl dX3_readNumber_108 ?_
      refine lv_bipush (v := 99) hx hb dX3_readNumber_111 (by decide) ?_
      have J126 : ∀ (t1_126 : Int32) (H : Heap) (locs : List Loc), va_P (dC, dI) vwCl [(p_this, .inr (3, [.ref p_bytes, .int d_length, .int d_next_71, .int d_start, .int d_token, .int d_value_71])), (p_bytes, .inl (cI, 250, .inl d_bytes))] H → va_D A [(p_this, .inr (3, [.ref p_bytes, .int d_length, .int d_next_71, .int d_start, .int d_token, .int d_value_71])), (p_bytes, .inl (cI, 250, .inl d_bytes))] → va_S A s.heap H locs → ∀ ls : Array Slot, lv_has ls 2 [] → f_X3_readNumber_J126 d_next_71 d_token d_value_71 t1_126 = some out → W p l e ({ frames := 2, cells := 0, slots := 0, locals := 42 } : Room) s m ([.ref p_this] : List Value).toArray below meth c H locs 0 0 Q (F0 m 126 ls [.int t1_126, .ref p_this]) := by
        intro t1_126 H locs hP hD hS ls hl hrun
        rw [f_X3_readNumber_J126] at hrun
        refine va_put (D := (dC, dI)) (ci := 3) (v := .int t1_126) (ty := .int) (C := RX3) (T := TX3) (N := 6) hx hb hts iwX3 tyX3 tyX3_ok nmX3 hown hK hP hD hS 0 rfl rfl 4 (by decide) (hts (.fieldLink RX3 25 "SkyListeners$Text" "token" "I") (by decide +kernel)) (fun _ h9 => h9) rfl (by decide +kernel) rfl rfl (Nat.le_of_ble_eq_true rfl) dX3_readNumber_126 (fun H locs hP hD hS => ?_)
        have hP : va_P (dC, dI) vwCl [(p_this, .inr (3, [.ref p_bytes, .int d_length, .int d_next_71, .int d_start, .int t1_126, .int d_value_71])), (p_bytes, .inl (cI, 250, .inl d_bytes))] H := hP
        have hD : va_D A [(p_this, .inr (3, [.ref p_bytes, .int d_length, .int d_next_71, .int d_start, .int t1_126, .int d_value_71])), (p_bytes, .inl (cI, 250, .inl d_bytes))] := hD
        have hrun := Option.some.inj hrun
        subst hrun
        rw [hQ]
        exact W.vret hx hb hr (fun t ht hW => ⟨⟨(), rfl, trivial, by rw [ht]; exact hP, hD⟩, hS.F ht⟩) hS.2.2 dX3_readNumber_129
      refine lv_icmp_gt (tgt := 120) hx hb dX3_readNumber_113 (by decide) (fun c_113 => ?_) (fun c_113 => ?_)
      · rw [if_pos c_113] at hrun
        refine lv_bipush (v := 7) hx hb dX3_readNumber_120 (by decide) ?_
        refine lv_goto (tgt := 126) hx hb dX3_readNumber_122 (by decide) ?_
        exact J126 7 H locs hP hD hS ls (lv_sub hl [] rfl) hrun
      · rw [if_neg c_113] at hrun
        refine lv_iload_n hx hb dX3_readNumber_116 rfl (lv_at hl 0 rfl) ?_
        refine lv_if_eq (tgt := 125) hx hb dX3_readNumber_117 (by decide) (fun c_117 => ?_) (fun c_117 => ?_)
        · rw [if_pos c_117] at hrun
          refine lv_iconst (v := 4) hx hb dX3_readNumber_125 (by decide) ?_
          exact J126 4 H locs hP hD hS ls (lv_sub hl [] rfl) hrun
        · rw [if_neg c_117] at hrun
          refine lv_bipush (v := 7) hx hb dX3_readNumber_120 (by decide) ?_
          refine lv_goto (tgt := 126) hx hb dX3_readNumber_122 (by decide) ?_
          exact J126 7 H locs hP hD hS ls (lv_sub hl [] rfl) hrun
    refine lv_icmp_ne (tgt := 104) hx hb dX3_readNumber_84 (by decide) (fun c_84 => ?_) (fun c_84 => ?_)
    · rw [if_neg c_84] at hrun
      refine lv_iconst (v := 0) hx hb dX3_readNumber_104 (by decide) ?_
      exact J105 0 H locs hP hD hS ls hl hrun
    · rw [if_pos c_84] at hrun
      refine lv_aload_n hx hb dX3_readNumber_87 rfl (lv_at hl 0 rfl) ?_
      refine va_get (D := (dC, dI)) (ci := 3) (v := .int d_next_71) (C := RX3) (T := TX3) (N := 6) hx hb hts iwX3 hown hK hP 0 rfl rfl 2 (by decide) (hts (.fieldLink RX3 19 "SkyListeners$Text" "next" "I") (by decide +kernel)) (fun _ h9 => h9) rfl dX3_readNumber_88 ?_
      refine lv_aload_n hx hb dX3_readNumber_91 rfl (lv_at hl 0 rfl) ?_
      refine va_get (D := (dC, dI)) (ci := 3) (v := .int d_start) (C := RX3) (T := TX3) (N := 6) hx hb hts iwX3 hown hK hP 0 rfl rfl 3 (by decide) (hts (.fieldLink RX3 22 "SkyListeners$Text" "start" "I") (by decide +kernel)) (fun _ h9 => h9) rfl dX3_readNumber_92 ?_
      refine lv_isub hx hb dX3_readNumber_95 ?_
      refine lv_iconst (v := 1) hx hb dX3_readNumber_96 (by decide) ?_
      refine lv_icmp_le (tgt := 104) hx hb dX3_readNumber_97 (by decide) (fun c_97 => ?_) (fun c_97 => ?_)
      · rw [if_pos c_97] at hrun
        refine lv_iconst (v := 0) hx hb dX3_readNumber_104 (by decide) ?_
        exact J105 0 H locs hP hD hS ls hl hrun
      · rw [if_neg c_97] at hrun
        refine lv_iconst (v := 1) hx hb dX3_readNumber_100 (by decide) ?_
        refine lv_goto (tgt := 105) hx hb dX3_readNumber_101 (by decide) ?_
        exact J105 1 H locs hP hD hS ls hl hrun
  have L5 : ∀ (n9_5 : Nat) (d_next_5 : Int32) (d_value_5 : Int32) (H : Heap) (locs : List Loc), va_P (dC, dI) vwCl [(p_this, .inr (3, [.ref p_bytes, .int d_length, .int d_next_5, .int d_start, .int d_token, .int d_value_5])), (p_bytes, .inl (cI, 250, .inl d_bytes))] H → va_D A [(p_this, .inr (3, [.ref p_bytes, .int d_length, .int d_next_5, .int d_start, .int d_token, .int d_value_5])), (p_bytes, .inl (cI, 250, .inl d_bytes))] → va_S A s.heap H locs → ∀ ls : Array Slot, lv_has ls 2 [(0, .ref p_this)] → f_X3_readNumber_L5 (f_X3_readNumber_X71 d_start d_token d_bytes) d_length d_start d_token d_bytes n9_5 d_next_5 d_value_5 = some out → W p l e ({ frames := 2, cells := 0, slots := 0, locals := 42 } : Room) s m ([.ref p_this] : List Value).toArray below meth c H locs 0 0 Q (F0 m 5 ls []) := by
    intro n9_5
    induction n9_5 with
    | zero =>
      intro d_next_5 d_value_5 H locs hP hD hS ls hl hrun
      rw [f_X3_readNumber_L5] at hrun
      cases hrun
    | succ n9_5 ih5 =>
      intro d_next_5 d_value_5 H locs hP hD hS ls hl hrun
      rw [f_X3_readNumber_L5] at hrun
      refine lv_aload_n hx hb dX3_readNumber_5 rfl (lv_at hl 0 rfl) ?_
      refine va_get (D := (dC, dI)) (ci := 3) (v := .int d_next_5) (C := RX3) (T := TX3) (N := 6) hx hb hts iwX3 hown hK hP 0 rfl rfl 2 (by decide) (hts (.fieldLink RX3 19 "SkyListeners$Text" "next" "I") (by decide +kernel)) (fun _ h9 => h9) rfl dX3_readNumber_6 ?_
      refine lv_aload_n hx hb dX3_readNumber_9 rfl (lv_at hl 0 rfl) ?_
      refine va_get (D := (dC, dI)) (ci := 3) (v := .int d_length) (C := RX3) (T := TX3) (N := 6) hx hb hts iwX3 hown hK hP 0 rfl rfl 1 (by decide) (hts (.fieldLink RX3 15 "SkyListeners$Text" "length" "I") (by decide +kernel)) (fun _ h9 => h9) rfl dX3_readNumber_10 ?_
      refine lv_icmp_ge (tgt := 71) hx hb dX3_readNumber_13 (by decide) (fun c_13 => ?_) (fun c_13 => ?_)
      · rw [if_pos c_13] at hrun
        exact X71 d_next_5 d_value_5 H locs hP hD hS ls hl hrun
      · rw [if_neg c_13] at hrun
        refine lv_aload_n hx hb dX3_readNumber_16 rfl (lv_at hl 0 rfl) ?_
        refine lv_aload_n hx hb dX3_readNumber_17 rfl (lv_at hl 0 rfl) ?_
        refine va_get (D := (dC, dI)) (ci := 3) (v := .int d_next_5) (C := RX3) (T := TX3) (N := 6) hx hb hts iwX3 hown hK hP 0 rfl rfl 2 (by decide) (hts (.fieldLink RX3 19 "SkyListeners$Text" "next" "I") (by decide +kernel)) (fun _ h9 => h9) rfl dX3_readNumber_18 ?_
        have hPc : va_P (dC, dI) vwCl [(p_this, .inr (3, [.ref p_bytes, .int d_length, .int d_next_5, .int d_start, .int d_token, .int d_value_5])), (p_bytes, .inl (cI, 250, .inl d_bytes))] H := hP.sub [0, 1] rfl
        have hDc : va_D A [(p_this, .inr (3, [.ref p_bytes, .int d_length, .int d_next_5, .int d_start, .int d_token, .int d_value_5])), (p_bytes, .inl (cI, 250, .inl d_bytes))] := hD.sub [0, 1] (by decide) rfl
        have hFc := va_free (wc := [(p_this, .inr (3, [.ref p_bytes, .int d_length, .int d_next_5, .int d_start, .int d_token, .int d_value_5])), (p_bytes, .inl (cI, 250, .inl d_bytes))]) hD hS hA [0, 1] rfl
        refine va_calli (va_runV (As := [.int d_next_5]) (rest := []) ⟨hx, hb, hml, hown, hts⟩ (c_X3_isDigit l dC dI cI cZ H.size p_bytes p_this d_length d_next_5 d_start d_token d_value_5 d_bytes d_next_5 (f_X3_isDigit d_length d_bytes d_next_5) rfl) (cwV 1 hts gX3_readNumber_X3_isDigit rfl rfl rfl (by decide +kernel) ⟨Nat.le_of_ble_eq_true rfl, Nat.le_of_ble_eq_true rfl⟩) ⟨fun a U g mk q => ⟨q.1, PC.mv q.2⟩, va_recv hK hP (ci := 3) (q0 := 0) rfl rfl, fun U hU hW => ⟨rfl, PC.of hU hW hPc hK hDc hN⟩⟩ rfl rfl hl.1 rfl (lv_room (Nat.le_of_ble_eq_true rfl)) dX3_readNumber_21 ⟨Nat.zero_le _, Nat.zero_le _⟩) hS (fun q _ h => hFc q h) hFc (fun r_21 u t H1 locs ht hvm hw hB hz1 hk1 hS => ?_)
        obtain ⟨hP1, hD1⟩ := hB
        try dsimp only at hw
        rw [hw]
        rw [ht] at hP1
        have hP : va_P (dC, dI) vwCl [(p_this, .inr (3, [.ref p_bytes, .int d_length, .int d_next_5, .int d_start, .int d_token, .int d_value_5])), (p_bytes, .inl (cI, 250, .inl d_bytes))] H1 := join_ro hP hD [0, 1] rfl hk1 hP1
        clear hPc hDc hFc hk1 hz1 hP1 hD1 ht hvm
        generalize H1 = H at hP hS ⊢
        refine lv_if_eq (tgt := 71) hx hb dX3_readNumber_24 (by decide) (fun c_24 => ?_) (fun c_24 => ?_)
        · rw [if_pos c_24] at hrun
          exact X71 d_next_5 d_value_5 H locs hP hD hS ls hl hrun
        · rw [if_neg c_24] at hrun
          refine lv_aload_n hx hb dX3_readNumber_27 rfl (lv_at hl 0 rfl) ?_
          refine lv_aload_n hx hb dX3_readNumber_28 rfl (lv_at hl 0 rfl) ?_
          refine va_get (D := (dC, dI)) (ci := 3) (v := .int d_value_5) (C := RX3) (T := TX3) (N := 6) hx hb hts iwX3 hown hK hP 0 rfl rfl 5 (by decide) (hts (.fieldLink RX3 28 "SkyListeners$Text" "value" "I") (by decide +kernel)) (fun _ h9 => h9) rfl dX3_readNumber_29 ?_
          refine lv_bipush (v := 10) hx hb dX3_readNumber_32 (by decide) ?_
          refine lv_imul hx hb dX3_readNumber_34 ?_
          refine lv_aload_n hx hb dX3_readNumber_35 rfl (lv_at hl 0 rfl) ?_
          refine va_get (D := (dC, dI)) (ci := 3) (v := .ref p_bytes) (C := RX3) (T := TX3) (N := 6) hx hb hts iwX3 hown hK hP 0 rfl rfl 0 (by decide) (hts (.fieldLink RX3 9 "SkyListeners$Text" "bytes" "[I") (by decide +kernel)) (fun _ h9 => h9) rfl dX3_readNumber_36 ?_
          refine lv_aload_n hx hb dX3_readNumber_39 rfl (lv_at hl 0 rfl) ?_
          refine va_get (D := (dC, dI)) (ci := 3) (v := .int d_next_5) (C := RX3) (T := TX3) (N := 6) hx hb hts iwX3 hown hK hP 0 rfl rfl 2 (by decide) (hts (.fieldLink RX3 19 "SkyListeners$Text" "next" "I") (by decide +kernel)) (fun _ h9 => h9) rfl dX3_readNumber_40 ?_
          have hPc : va_P (dC, dI) vwCl [(p_bytes, .inl (cI, 250, .inl d_bytes))] H := hP.sub [1] rfl
          have hDc : va_D A [(p_bytes, .inl (cI, 250, .inl d_bytes))] := hD.sub [1] (by decide) rfl
          have hFc := va_free (wc := [(p_bytes, .inl (cI, 250, .inl d_bytes))]) hD hS hA [1] rfl
          refine va_calli (va_runSN (As := [.ref p_bytes, .int d_next_5]) (rest := [.int (d_value_5 * 10), .ref p_this]) ⟨hx, hb, hml, hown, hts⟩ (c_X5_at l dC dI cI cZ H.size p_bytes 250 d_bytes d_next_5 (by decide) (f_X5_at 250 d_bytes d_next_5) rfl) ⟨va_cnB 2 hts gX3_readNumber_X5_at_n35 rfl rfl rfl hN.2.1 (hts (.initialized RX5) (by decide +kernel)) (by decide +kernel) ⟨Nat.le_of_ble_eq_true rfl, Nat.le_of_ble_eq_true rfl⟩, hts (.static yX5_at) (by decide +kernel), trivial⟩ ⟨fun a U g mk q => ⟨q.1, PC.mv q.2⟩, fun U hU hW => ⟨rfl, PC.of hU hW hPc hK hDc hN⟩⟩ rfl rfl hl.1 rfl (lv_room (Nat.le_of_ble_eq_true rfl)) dX3_readNumber_43 ⟨Nat.zero_le _, Nat.zero_le _⟩) hS (fun q _ h => hFc q h) hFc (fun r_43 u t H1 locs ht hvm hw hB hz1 hk1 hS => ?_)
          obtain ⟨hP1, hD1⟩ := hB
          try dsimp only at hw
          rw [hw]
          rw [ht] at hP1
          have hP : va_P (dC, dI) vwCl [(p_this, .inr (3, [.ref p_bytes, .int d_length, .int d_next_5, .int d_start, .int d_token, .int d_value_5])), (p_bytes, .inl (cI, 250, .inl d_bytes))] H1 := join_ro hP hD [1] rfl hk1 hP1
          clear hPc hDc hFc hk1 hz1 hP1 hD1 ht hvm
          generalize H1 = H at hP hS ⊢
          refine lv_iadd hx hb dX3_readNumber_46 ?_
          refine lv_bipush (v := 48) hx hb dX3_readNumber_47 (by decide) ?_
          refine lv_isub hx hb dX3_readNumber_49 ?_
          refine lv_bipush (v := 100) hx hb dX3_readNumber_50 (by decide) ?_
          refine va_mmin hx hb (hml.trans hl.1.symm) hown (hts (.methodLink RX3 52 Lib.Math.min.name) (by decide +kernel)) (hts (.static Lib.Math.min.name) (by decide +kernel)) (hts (.initialized "java/lang/Math") (by decide +kernel)) (hts (.code Lib.Math.min.name Lib.Math.min.code 2 (some .int)) (by decide +kernel)) (Nat.le_of_ble_eq_true rfl) (Nat.le_of_ble_eq_true rfl) (Nat.zero_le _) (Nat.zero_le _) dX3_readNumber_52 ?_
          refine va_put (D := (dC, dI)) (ci := 3) (v := .int (if 100 < (((d_value_5 * 10) + (f_X5_at 250 d_bytes d_next_5)) - 48) then 100 else (((d_value_5 * 10) + (f_X5_at 250 d_bytes d_next_5)) - 48))) (ty := .int) (C := RX3) (T := TX3) (N := 6) hx hb hts iwX3 tyX3 tyX3_ok nmX3 hown hK hP hD hS 0 rfl rfl 5 (by decide) (hts (.fieldLink RX3 28 "SkyListeners$Text" "value" "I") (by decide +kernel)) (fun _ h9 => h9) rfl (by decide +kernel) rfl rfl (Nat.le_of_ble_eq_true rfl) dX3_readNumber_55 (fun H locs hP hD hS => ?_)
          have hP : va_P (dC, dI) vwCl [(p_this, .inr (3, [.ref p_bytes, .int d_length, .int d_next_5, .int d_start, .int d_token, .int (if 100 < (((d_value_5 * 10) + (f_X5_at 250 d_bytes d_next_5)) - 48) then 100 else (((d_value_5 * 10) + (f_X5_at 250 d_bytes d_next_5)) - 48))])), (p_bytes, .inl (cI, 250, .inl d_bytes))] H := hP
          have hD : va_D A [(p_this, .inr (3, [.ref p_bytes, .int d_length, .int d_next_5, .int d_start, .int d_token, .int (if 100 < (((d_value_5 * 10) + (f_X5_at 250 d_bytes d_next_5)) - 48) then 100 else (((d_value_5 * 10) + (f_X5_at 250 d_bytes d_next_5)) - 48))])), (p_bytes, .inl (cI, 250, .inl d_bytes))] := hD
          refine lv_aload_n hx hb dX3_readNumber_58 rfl (lv_at hl 0 rfl) ?_
          refine lv_dup hx hb dX3_readNumber_59 rfl ?_
          refine va_get (D := (dC, dI)) (ci := 3) (v := .int d_next_5) (C := RX3) (T := TX3) (N := 6) hx hb hts iwX3 hown hK hP 0 rfl rfl 2 (by decide) (hts (.fieldLink RX3 19 "SkyListeners$Text" "next" "I") (by decide +kernel)) (fun _ h9 => h9) rfl dX3_readNumber_60 ?_
          refine lv_iconst (v := 1) hx hb dX3_readNumber_63 (by decide) ?_
          refine lv_iadd hx hb dX3_readNumber_64 ?_
          refine va_put (D := (dC, dI)) (ci := 3) (v := .int (d_next_5 + 1)) (ty := .int) (C := RX3) (T := TX3) (N := 6) hx hb hts iwX3 tyX3 tyX3_ok nmX3 hown hK hP hD hS 0 rfl rfl 2 (by decide) (hts (.fieldLink RX3 19 "SkyListeners$Text" "next" "I") (by decide +kernel)) (fun _ h9 => h9) rfl (by decide +kernel) rfl rfl (Nat.le_of_ble_eq_true rfl) dX3_readNumber_65 (fun H locs hP hD hS => ?_)
          have hP : va_P (dC, dI) vwCl [(p_this, .inr (3, [.ref p_bytes, .int d_length, .int (d_next_5 + 1), .int d_start, .int d_token, .int (if 100 < (((d_value_5 * 10) + (f_X5_at 250 d_bytes d_next_5)) - 48) then 100 else (((d_value_5 * 10) + (f_X5_at 250 d_bytes d_next_5)) - 48))])), (p_bytes, .inl (cI, 250, .inl d_bytes))] H := hP
          have hD : va_D A [(p_this, .inr (3, [.ref p_bytes, .int d_length, .int (d_next_5 + 1), .int d_start, .int d_token, .int (if 100 < (((d_value_5 * 10) + (f_X5_at 250 d_bytes d_next_5)) - 48) then 100 else (((d_value_5 * 10) + (f_X5_at 250 d_bytes d_next_5)) - 48))])), (p_bytes, .inl (cI, 250, .inl d_bytes))] := hD
          refine lv_goto (tgt := 5) hx hb dX3_readNumber_68 (by decide) ?_
          exact ih5 (d_next_5 + 1) (if 100 < (((d_value_5 * 10) + (f_X5_at 250 d_bytes d_next_5)) - 48) then 100 else (((d_value_5 * 10) + (f_X5_at 250 d_bytes d_next_5)) - 48)) H locs hP hD hS ls hl hrun
  exact L5 FU d_next 0 H locs hP hD hS ls hl hrun
-- SkyListeners$Text.isLetter
def f_X3_isLetter (d_length : Int32) (d_bytes : Nat → Int32) (x1 : Int32) : Int32 := (if d_length ≤ x1 then (0) else (if (f_X5_at 250 d_bytes x1) < 97 then (0) else (if 122 < (f_X5_at 250 d_bytes x1) then (0) else (1))))
theorem b_X3_isLetter (d_length : Int32) (d_bytes : Nat → Int32) (x1 : Int32) : f_X3_isLetter d_length d_bytes x1 = 0 ∨ f_X3_isLetter d_length d_bytes x1 = 1 := by unfold f_X3_isLetter; first | (repeat' split) <;> first | exact Or.inl rfl | exact Or.inr rfl
set_option maxHeartbeats 4000000 in
set_option maxRecDepth 100000 in
theorem c_X3_isLetter (l : Launch) (dC : Nat → ClassId) (dI : Nat → Nat → Nat) (cI cZ : ClassId) (sz : Nat) (p_bytes p_this : Nat) (d_length : Int32) (d_next : Int32) (d_start : Int32) (d_token : Int32) (d_value : Int32) (d_bytes : Nat → Int32) (x1 : Int32) (out : Int32) (hrun : f_X3_isLetter d_length d_bytes x1 = out) : Met l yX3_isLetter wsX3_isLetter ({ frames := 1, cells := 0, slots := 0, locals := 21 } : Room) (va_Pc [.ref p_this, .int x1] (PC dC dI cI cZ sz ([(p_this, .inr (3, [.ref p_bytes, .int d_length, .int d_next, .int d_start, .int d_token, .int d_value])), (p_bytes, .inl (cI, 250, .inl d_bytes))] : va_W))) (va_Qi (fun r (_ : Unit) => r = out) (fun _ t => va_P (dC, dI) vwCl [(p_this, .inr (3, [.ref p_bytes, .int d_length, .int d_next, .int d_start, .int d_token, .int d_value])), (p_bytes, .inl (cI, 250, .inl d_bytes))] t.heap ∧ va_D (va_A ([(p_this, .inr (3, [.ref p_bytes, .int d_length, .int d_next, .int d_start, .int d_token, .int d_value])), (p_bytes, .inl (cI, 250, .inl d_bytes))] : va_W) sz) [(p_this, .inr (3, [.ref p_bytes, .int d_length, .int d_next, .int d_start, .int d_token, .int d_value])), (p_bytes, .inl (cI, 250, .inl d_bytes))]) (va_A ([(p_this, .inr (3, [.ref p_bytes, .int d_length, .int d_next, .int d_start, .int d_token, .int d_value])), (p_bytes, .inl (cI, 250, .inl d_bytes))] : va_W) sz)) 0 0 (va_A ([(p_this, .inr (3, [.ref p_bytes, .int d_length, .int d_next, .int d_start, .int d_token, .int d_value])), (p_bytes, .inl (cI, 250, .inl d_bytes))] : va_W) sz) := by
  refine Met.ofW (cc := cX3_isLetter) (maxL := 2) (ret := (some .boolean)) (by decide) rfl ?_
  intro p e s m args below meth c s₁ B hml hv
  obtain ⟨rfl, hsz, hP, hK, hD0, hN⟩ := hv
  have hx := B.exec
  have hb := B.bytes
  have hr := B.returns
  have hts := atoms_spec (ws := wsX3_isLetter) B.pre
  have hown : s.vm.findClass RX3 = some m.cls := findClass_of_methodNamed B.named
  have hlocks := B.notSynchronized
  subst hsz
  have hD := hD0.self (sz := s.heap.size)
  generalize hAe : va_A ([(p_this, .inr (3, [.ref p_bytes, .int d_length, .int d_next, .int d_start, .int d_token, .int d_value])), (p_bytes, .inl (cI, 250, .inl d_bytes))] : va_W) s.heap.size = A at hD ⊢
  have hA : ∀ q : Nat, s.heap.size ≤ q → A q := fun q h => by rw [← hAe]; exact Or.inr h
  have hS : va_S A s.heap s.heap [] := va_S.rf
  refine W_abs (fun Q hQ => ?_)
  have hl := lv_entry ([.ref p_this, .int x1]) (n := 2) (Nat.le_of_ble_eq_true rfl)
  rw [lg_entry_eq]
  generalize (lg_sl ([.ref p_this, .int x1]) ++ List.replicate (2 - (lg_sl ([.ref p_this, .int x1])).length) Slot.unset).toArray = ls at hl ⊢
  have hl : lv_has ls 2 [(0, .ref p_this), (1, .int x1)] := hl
  rw [f_X3_isLetter] at hrun
  refine W_start (ws := [(p_this, .inr (3, [.ref p_bytes, .int d_length, .int d_next, .int d_start, .int d_token, .int d_value])), (p_bytes, .inl (cI, 250, .inl d_bytes))]) hP hS (fun H locs hP hS => ?_)
  have iwX3 : ∀ w ∈ wsX30, w ∈ wsX3_isLetter := by decide +kernel
  refine lv_iload_n hx hb dX3_isLetter_0 rfl (lv_at hl 1 rfl) ?_
  refine lv_aload_n hx hb dX3_isLetter_1 rfl (lv_at hl 0 rfl) ?_
  refine va_get (D := (dC, dI)) (ci := 3) (v := .int d_length) (C := RX3) (T := TX3) (N := 6) hx hb hts iwX3 hown hK hP 0 rfl rfl 1 (by decide) (hts (.fieldLink RX3 15 "SkyListeners$Text" "length" "I") (by decide +kernel)) (fun _ h9 => h9) rfl dX3_isLetter_2 ?_
  refine lv_icmp_ge (tgt := 38) hx hb dX3_isLetter_5 (by decide) (fun c_5 => ?_) (fun c_5 => ?_)
  · rw [if_pos c_5] at hrun
    refine lv_iconst (v := 0) hx hb dX3_isLetter_38 (by decide) ?_
    have hrun := hrun
    subst hrun
    rw [hQ]
    exact W.zret (v := 0) (ty := .boolean) hx hb hr rfl (fun t ht hW => ⟨⟨0, (), rfl, rfl, by rw [ht]; exact hP, hD⟩, hS.F ht⟩) hS.2.2 dX3_isLetter_39
  · rw [if_neg c_5] at hrun
    refine lv_aload_n hx hb dX3_isLetter_8 rfl (lv_at hl 0 rfl) ?_
    refine va_get (D := (dC, dI)) (ci := 3) (v := .ref p_bytes) (C := RX3) (T := TX3) (N := 6) hx hb hts iwX3 hown hK hP 0 rfl rfl 0 (by decide) (hts (.fieldLink RX3 9 "SkyListeners$Text" "bytes" "[I") (by decide +kernel)) (fun _ h9 => h9) rfl dX3_isLetter_9 ?_
    refine lv_iload_n hx hb dX3_isLetter_12 rfl (lv_at hl 1 rfl) ?_
    have hPc : va_P (dC, dI) vwCl [(p_bytes, .inl (cI, 250, .inl d_bytes))] H := hP.sub [1] rfl
    have hDc : va_D A [(p_bytes, .inl (cI, 250, .inl d_bytes))] := hD.sub [1] (by decide) rfl
    have hFc := va_free (wc := [(p_bytes, .inl (cI, 250, .inl d_bytes))]) hD hS hA [1] rfl
    refine va_calli (va_runSN (As := [.ref p_bytes, .int x1]) (rest := []) ⟨hx, hb, hml, hown, hts⟩ (c_X5_at l dC dI cI cZ H.size p_bytes 250 d_bytes x1 (by decide) (f_X5_at 250 d_bytes x1) rfl) ⟨va_cnB 2 hts gX3_isLetter_X5_at_n35 rfl rfl rfl hN.2.1 (hts (.initialized RX5) (by decide +kernel)) (by decide +kernel) ⟨Nat.le_of_ble_eq_true rfl, Nat.le_of_ble_eq_true rfl⟩, hts (.static yX5_at) (by decide +kernel), trivial⟩ ⟨fun a U g mk q => ⟨q.1, PC.mv q.2⟩, fun U hU hW => ⟨rfl, PC.of hU hW hPc hK hDc hN⟩⟩ rfl rfl hl.1 rfl (lv_room (Nat.le_of_ble_eq_true rfl)) dX3_isLetter_13 ⟨Nat.zero_le _, Nat.zero_le _⟩) hS (fun q _ h => hFc q h) hFc (fun r_13 u t H1 locs ht hvm hw hB hz1 hk1 hS => ?_)
    obtain ⟨hP1, hD1⟩ := hB
    try dsimp only at hw
    rw [hw]
    rw [ht] at hP1
    have hP : va_P (dC, dI) vwCl [(p_this, .inr (3, [.ref p_bytes, .int d_length, .int d_next, .int d_start, .int d_token, .int d_value])), (p_bytes, .inl (cI, 250, .inl d_bytes))] H1 := join_ro hP hD [1] rfl hk1 hP1
    clear hPc hDc hFc hk1 hz1 hP1 hD1 ht hvm
    generalize H1 = H at hP hS ⊢
    refine lv_bipush (v := 97) hx hb dX3_isLetter_16 (by decide) ?_
    refine lv_icmp_lt (tgt := 38) hx hb dX3_isLetter_18 (by decide) (fun c_18 => ?_) (fun c_18 => ?_)
    · rw [if_pos c_18] at hrun
      refine lv_iconst (v := 0) hx hb dX3_isLetter_38 (by decide) ?_
      have hrun := hrun
      subst hrun
      rw [hQ]
      exact W.zret (v := 0) (ty := .boolean) hx hb hr rfl (fun t ht hW => ⟨⟨0, (), rfl, rfl, by rw [ht]; exact hP, hD⟩, hS.F ht⟩) hS.2.2 dX3_isLetter_39
    · rw [if_neg c_18] at hrun
      refine lv_aload_n hx hb dX3_isLetter_21 rfl (lv_at hl 0 rfl) ?_
      refine va_get (D := (dC, dI)) (ci := 3) (v := .ref p_bytes) (C := RX3) (T := TX3) (N := 6) hx hb hts iwX3 hown hK hP 0 rfl rfl 0 (by decide) (hts (.fieldLink RX3 9 "SkyListeners$Text" "bytes" "[I") (by decide +kernel)) (fun _ h9 => h9) rfl dX3_isLetter_22 ?_
      refine lv_iload_n hx hb dX3_isLetter_25 rfl (lv_at hl 1 rfl) ?_
      have hPc : va_P (dC, dI) vwCl [(p_bytes, .inl (cI, 250, .inl d_bytes))] H := hP.sub [1] rfl
      have hDc : va_D A [(p_bytes, .inl (cI, 250, .inl d_bytes))] := hD.sub [1] (by decide) rfl
      have hFc := va_free (wc := [(p_bytes, .inl (cI, 250, .inl d_bytes))]) hD hS hA [1] rfl
      refine va_calli (va_runSN (As := [.ref p_bytes, .int x1]) (rest := []) ⟨hx, hb, hml, hown, hts⟩ (c_X5_at l dC dI cI cZ H.size p_bytes 250 d_bytes x1 (by decide) (f_X5_at 250 d_bytes x1) rfl) ⟨va_cnB 2 hts gX3_isLetter_X5_at_n35 rfl rfl rfl hN.2.1 (hts (.initialized RX5) (by decide +kernel)) (by decide +kernel) ⟨Nat.le_of_ble_eq_true rfl, Nat.le_of_ble_eq_true rfl⟩, hts (.static yX5_at) (by decide +kernel), trivial⟩ ⟨fun a U g mk q => ⟨q.1, PC.mv q.2⟩, fun U hU hW => ⟨rfl, PC.of hU hW hPc hK hDc hN⟩⟩ rfl rfl hl.1 rfl (lv_room (Nat.le_of_ble_eq_true rfl)) dX3_isLetter_26 ⟨Nat.zero_le _, Nat.zero_le _⟩) hS (fun q _ h => hFc q h) hFc (fun r_26 u t H1 locs ht hvm hw hB hz1 hk1 hS => ?_)
      obtain ⟨hP1, hD1⟩ := hB
      try dsimp only at hw
      rw [hw]
      rw [ht] at hP1
      have hP : va_P (dC, dI) vwCl [(p_this, .inr (3, [.ref p_bytes, .int d_length, .int d_next, .int d_start, .int d_token, .int d_value])), (p_bytes, .inl (cI, 250, .inl d_bytes))] H1 := join_ro hP hD [1] rfl hk1 hP1
      clear hPc hDc hFc hk1 hz1 hP1 hD1 ht hvm
      generalize H1 = H at hP hS ⊢
      refine lv_bipush (v := 122) hx hb dX3_isLetter_29 (by decide) ?_
      refine lv_icmp_gt (tgt := 38) hx hb dX3_isLetter_31 (by decide) (fun c_31 => ?_) (fun c_31 => ?_)
      · rw [if_pos c_31] at hrun
        refine lv_iconst (v := 0) hx hb dX3_isLetter_38 (by decide) ?_
        have hrun := hrun
        subst hrun
        rw [hQ]
        exact W.zret (v := 0) (ty := .boolean) hx hb hr rfl (fun t ht hW => ⟨⟨0, (), rfl, rfl, by rw [ht]; exact hP, hD⟩, hS.F ht⟩) hS.2.2 dX3_isLetter_39
      · rw [if_neg c_31] at hrun
        refine lv_iconst (v := 1) hx hb dX3_isLetter_34 (by decide) ?_
        refine lv_goto (tgt := 39) hx hb dX3_isLetter_35 (by decide) ?_
        have hrun := hrun
        subst hrun
        rw [hQ]
        exact W.zret (v := 1) (ty := .boolean) hx hb hr rfl (fun t ht hW => ⟨⟨1, (), rfl, rfl, by rw [ht]; exact hP, hD⟩, hS.F ht⟩) hS.2.2 dX3_isLetter_39
-- SkyListeners$Text.add
def f_X3_add_L19 (x1 : Int64) : Nat → Int32 → Int32 → (Nat → Int32) → Option (Int32 × Int32 × (Nat → Int32))
  | 0, _, _, _ => none
  | n9 + 1, x4, d_length, d_bytes => (if x4 < 0 then (some (1, d_length, d_bytes)) else (f_X3_add_L19  x1 n9 (x4 + (-1)) (d_length + 1) (f_X5_put 250 d_bytes d_length ((((x1.toUInt64 >>> ((8 * x4).toInt64.toUInt64 &&& Int64.toUInt64 63)).toInt64).toInt32) &&& 255))))
def f_X3_add (d_length : Int32) (d_bytes : Nat → Int32) (x1 : Int64) (x3 : Int32) : Option (Int32 × Int32 × (Nat → Int32)) := (if (d_length + x3) ≤ 250 then (f_X3_add_L19 x1 FU (x3 - 1) d_length d_bytes) else (some (0, d_length, d_bytes)))
set_option maxHeartbeats 4000000 in
set_option maxRecDepth 100000 in
theorem c_X3_add (l : Launch) (dC : Nat → ClassId) (dI : Nat → Nat → Nat) (cI cZ : ClassId) (sz : Nat) (p_bytes p_this : Nat) (d_length : Int32) (d_next : Int32) (d_start : Int32) (d_token : Int32) (d_value : Int32) (d_bytes : Nat → Int32) (x1 : Int64) (x3 : Int32) (out : Int32 × Int32 × (Nat → Int32)) (hrun : f_X3_add d_length d_bytes x1 x3 = some out) : Met l yX3_add wsX3_add ({ frames := 1, cells := 0, slots := 0, locals := 22 } : Room) (va_Pc [.ref p_this, .long x1, .int x3] (PC dC dI cI cZ sz ([(p_this, .inr (3, [.ref p_bytes, .int d_length, .int d_next, .int d_start, .int d_token, .int d_value])), (p_bytes, .inl (cI, 250, .inl d_bytes))] : va_W))) (va_Qi (fun r (_ : Unit) => r = out.1) (fun _ t => va_P (dC, dI) vwCl [(p_this, .inr (3, [.ref p_bytes, .int out.2.1, .int d_next, .int d_start, .int d_token, .int d_value])), (p_bytes, .inl (cI, 250, .inl out.2.2))] t.heap ∧ va_D (va_A ([(p_this, .inr (3, [.ref p_bytes, .int d_length, .int d_next, .int d_start, .int d_token, .int d_value])), (p_bytes, .inl (cI, 250, .inl d_bytes))] : va_W) sz) [(p_this, .inr (3, [.ref p_bytes, .int out.2.1, .int d_next, .int d_start, .int d_token, .int d_value])), (p_bytes, .inl (cI, 250, .inl out.2.2))]) (va_A ([(p_this, .inr (3, [.ref p_bytes, .int d_length, .int d_next, .int d_start, .int d_token, .int d_value])), (p_bytes, .inl (cI, 250, .inl d_bytes))] : va_W) sz)) 0 0 (va_A ([(p_this, .inr (3, [.ref p_bytes, .int d_length, .int d_next, .int d_start, .int d_token, .int d_value])), (p_bytes, .inl (cI, 250, .inl d_bytes))] : va_W) sz) := by
  refine Met.ofW (cc := cX3_add) (maxL := 5) (ret := (some .boolean)) (by decide) rfl ?_
  intro p e s m args below meth c s₁ B hml hv
  obtain ⟨rfl, hsz, hP, hK, hD0, hN⟩ := hv
  have hx := B.exec
  have hb := B.bytes
  have hr := B.returns
  have hts := atoms_spec (ws := wsX3_add) B.pre
  have hown : s.vm.findClass RX3 = some m.cls := findClass_of_methodNamed B.named
  have hlocks := B.notSynchronized
  subst hsz
  have hD := hD0.self (sz := s.heap.size)
  generalize hAe : va_A ([(p_this, .inr (3, [.ref p_bytes, .int d_length, .int d_next, .int d_start, .int d_token, .int d_value])), (p_bytes, .inl (cI, 250, .inl d_bytes))] : va_W) s.heap.size = A at hD ⊢
  have hA : ∀ q : Nat, s.heap.size ≤ q → A q := fun q h => by rw [← hAe]; exact Or.inr h
  have hS : va_S A s.heap s.heap [] := va_S.rf
  refine W_abs (fun Q hQ => ?_)
  have hl := lv_entry ([.ref p_this, .long x1, .int x3]) (n := 5) (Nat.le_of_ble_eq_true rfl)
  rw [lg_entry_eq]
  generalize (lg_sl ([.ref p_this, .long x1, .int x3]) ++ List.replicate (5 - (lg_sl ([.ref p_this, .long x1, .int x3])).length) Slot.unset).toArray = ls at hl ⊢
  have hl : lv_has ls 5 [(0, .ref p_this), (1, .long x1), (3, .int x3)] := hl
  rw [f_X3_add] at hrun
  refine W_start (ws := [(p_this, .inr (3, [.ref p_bytes, .int d_length, .int d_next, .int d_start, .int d_token, .int d_value])), (p_bytes, .inl (cI, 250, .inl d_bytes))]) hP hS (fun H locs hP hS => ?_)
  have iwX3 : ∀ w ∈ wsX30, w ∈ wsX3_add := by decide +kernel
  refine lv_aload_n hx hb dX3_add_0 rfl (lv_at hl 0 rfl) ?_
  refine va_get (D := (dC, dI)) (ci := 3) (v := .int d_length) (C := RX3) (T := TX3) (N := 6) hx hb hts iwX3 hown hK hP 0 rfl rfl 1 (by decide) (hts (.fieldLink RX3 15 "SkyListeners$Text" "length" "I") (by decide +kernel)) (fun _ h9 => h9) rfl dX3_add_1 ?_
  refine lv_iload_n hx hb dX3_add_4 rfl (lv_at hl 2 rfl) ?_
  refine lv_iadd hx hb dX3_add_5 ?_
  refine lv_sipush (v := 250) hx hb dX3_add_6 (by decide) ?_
  refine lv_icmp_le (tgt := 14) hx hb dX3_add_9 (by decide) (fun c_9 => ?_) (fun c_9 => ?_)
  · rw [if_pos c_9] at hrun
    refine lv_iload_n hx hb dX3_add_14 rfl (lv_at hl 2 rfl) ?_
    refine lv_iconst (v := 1) hx hb dX3_add_15 (by decide) ?_
    refine lv_isub hx hb dX3_add_16 ?_
    refine lv_istore (lv' := [(4, .int (x3 - 1)), (0, .ref p_this), (1, .long x1), (3, .int x3)]) hx hb dX3_add_17 hl (by decide) rfl (fun ls hl => ?_)
    have L19 : ∀ (n9_19 : Nat) (x4_19 : Int32) (d_length_19 : Int32) (d_bytes_19 : Nat → Int32) (H : Heap) (locs : List Loc), va_P (dC, dI) vwCl [(p_this, .inr (3, [.ref p_bytes, .int d_length_19, .int d_next, .int d_start, .int d_token, .int d_value])), (p_bytes, .inl (cI, 250, .inl d_bytes_19))] H → va_D A [(p_this, .inr (3, [.ref p_bytes, .int d_length_19, .int d_next, .int d_start, .int d_token, .int d_value])), (p_bytes, .inl (cI, 250, .inl d_bytes_19))] → va_S A s.heap H locs → ∀ ls : Array Slot, lv_has ls 5 [(0, .ref p_this), (1, .long x1), (4, .int x4_19)] → f_X3_add_L19 x1 n9_19 x4_19 d_length_19 d_bytes_19 = some out → W p l e ({ frames := 1, cells := 0, slots := 0, locals := 22 } : Room) s m ([.ref p_this, .long x1, .int x3] : List Value).toArray below meth c H locs 0 0 Q (F0 m 19 ls []) := by
      intro n9_19
      induction n9_19 with
      | zero =>
        intro x4_19 d_length_19 d_bytes_19 H locs hP hD hS ls hl hrun
        rw [f_X3_add_L19] at hrun
        cases hrun
      | succ n9_19 ih19 =>
        intro x4_19 d_length_19 d_bytes_19 H locs hP hD hS ls hl hrun
        rw [f_X3_add_L19] at hrun
        refine lv_iload hx hb dX3_add_19 (lv_at hl 2 rfl) ?_
        refine lv_if_lt (tgt := 63) hx hb dX3_add_21 (by decide) (fun c_21 => ?_) (fun c_21 => ?_)
        · rw [if_pos c_21] at hrun
          refine lv_iconst (v := 1) hx hb dX3_add_63 (by decide) ?_
          have hrun := Option.some.inj hrun
          subst hrun
          rw [hQ]
          exact W.zret (v := 1) (ty := .boolean) hx hb hr rfl (fun t ht hW => ⟨⟨1, (), rfl, rfl, by rw [ht]; exact hP, hD⟩, hS.F ht⟩) hS.2.2 dX3_add_64
        · rw [if_neg c_21] at hrun
          refine lv_aload_n hx hb dX3_add_24 rfl (lv_at hl 0 rfl) ?_
          refine va_get (D := (dC, dI)) (ci := 3) (v := .ref p_bytes) (C := RX3) (T := TX3) (N := 6) hx hb hts iwX3 hown hK hP 0 rfl rfl 0 (by decide) (hts (.fieldLink RX3 9 "SkyListeners$Text" "bytes" "[I") (by decide +kernel)) (fun _ h9 => h9) rfl dX3_add_25 ?_
          refine lv_aload_n hx hb dX3_add_28 rfl (lv_at hl 0 rfl) ?_
          refine va_get (D := (dC, dI)) (ci := 3) (v := .int d_length_19) (C := RX3) (T := TX3) (N := 6) hx hb hts iwX3 hown hK hP 0 rfl rfl 1 (by decide) (hts (.fieldLink RX3 15 "SkyListeners$Text" "length" "I") (by decide +kernel)) (fun _ h9 => h9) rfl dX3_add_29 ?_
          refine lv_lload_n hx hb dX3_add_32 rfl (lv_at hl 1 rfl) ?_
          refine lv_bipush (v := 8) hx hb dX3_add_33 (by decide) ?_
          refine lv_iload hx hb dX3_add_35 (lv_at hl 2 rfl) ?_
          refine lv_imul hx hb dX3_add_37 ?_
          refine lv_lushr (v := (x1.toUInt64 >>> ((8 * x4_19).toInt64.toUInt64 &&& Int64.toUInt64 63)).toInt64) hx hb dX3_add_38 rfl ?_
          refine lv_l2i (v := ((x1.toUInt64 >>> ((8 * x4_19).toInt64.toUInt64 &&& Int64.toUInt64 63)).toInt64).toInt32) hx hb dX3_add_39 rfl ?_
          refine lv_sipush (v := 255) hx hb dX3_add_40 (by decide) ?_
          refine lv_iand hx hb dX3_add_43 ?_
          have hPc : va_P (dC, dI) vwCl [(p_bytes, .inl (cI, 250, .inl d_bytes_19))] H := hP.sub [1] rfl
          have hDc : va_D A [(p_bytes, .inl (cI, 250, .inl d_bytes_19))] := hD.sub [1] (by decide) rfl
          have hFc := va_free (wc := [(p_bytes, .inl (cI, 250, .inl d_bytes_19))]) hD hS hA [1] rfl
          refine va_callv (va_runSN (As := [.ref p_bytes, .int d_length_19, .int ((((x1.toUInt64 >>> ((8 * x4_19).toInt64.toUInt64 &&& Int64.toUInt64 63)).toInt64).toInt32) &&& 255)]) (rest := []) ⟨hx, hb, hml, hown, hts⟩ (c_X5_put l dC dI cI cZ H.size p_bytes 250 d_bytes_19 d_length_19 ((((x1.toUInt64 >>> ((8 * x4_19).toInt64.toUInt64 &&& Int64.toUInt64 63)).toInt64).toInt32) &&& 255) (by decide) (f_X5_put 250 d_bytes_19 d_length_19 ((((x1.toUInt64 >>> ((8 * x4_19).toInt64.toUInt64 &&& Int64.toUInt64 63)).toInt64).toInt32) &&& 255)) rfl) ⟨va_cnB 3 hts gX3_add_X5_put_n31 rfl rfl rfl hN.1 (hts (.initialized RX5) (by decide +kernel)) (by decide +kernel) ⟨Nat.le_of_ble_eq_true rfl, Nat.le_of_ble_eq_true rfl⟩, hts (.static yX5_put) (by decide +kernel), trivial⟩ ⟨fun a U g mk q => ⟨q.1, PC.mv q.2⟩, fun U hU hW => ⟨rfl, PC.of hU hW hPc hK hDc hN⟩⟩ rfl rfl hl.1 rfl (lv_room (Nat.le_of_ble_eq_true rfl)) dX3_add_44 ⟨Nat.zero_le _, Nat.zero_le _⟩) hS (fun q _ h => hFc q h) hFc (fun u t H1 locs ht hvm hw hB hz1 hk1 hS => ?_)
          obtain ⟨hP1, hD1⟩ := hB
          rw [ht] at hP1
          obtain ⟨hP, hD⟩ := va_join (wr := [(p_this, .inr (3, [.ref p_bytes, .int d_length_19, .int d_next, .int d_start, .int d_token, .int d_value]))]) (w1 := [(p_bytes, .inl (cI, 250, .inl (f_X5_put 250 d_bytes_19 d_length_19 ((((x1.toUInt64 >>> ((8 * x4_19).toInt64.toUInt64 &&& Int64.toUInt64 63)).toInt64).toInt32) &&& 255))))]) hP hD [1] [0] rfl rfl (by decide) (by decide) hk1 hFc hP1 hD1
          have hP : va_P (dC, dI) vwCl [(p_this, .inr (3, [.ref p_bytes, .int d_length_19, .int d_next, .int d_start, .int d_token, .int d_value])), (p_bytes, .inl (cI, 250, .inl (f_X5_put 250 d_bytes_19 d_length_19 ((((x1.toUInt64 >>> ((8 * x4_19).toInt64.toUInt64 &&& Int64.toUInt64 63)).toInt64).toInt32) &&& 255))))] H1 := hP.sub [0, 1] rfl
          have hD : va_D A [(p_this, .inr (3, [.ref p_bytes, .int d_length_19, .int d_next, .int d_start, .int d_token, .int d_value])), (p_bytes, .inl (cI, 250, .inl (f_X5_put 250 d_bytes_19 d_length_19 ((((x1.toUInt64 >>> ((8 * x4_19).toInt64.toUInt64 &&& Int64.toUInt64 63)).toInt64).toInt32) &&& 255))))] := hD.sub [0, 1] (by decide) rfl
          clear hPc hDc hFc hk1 hz1 hP1 hD1 ht hvm
          generalize H1 = H at hP hS ⊢
          refine lv_aload_n hx hb dX3_add_47 rfl (lv_at hl 0 rfl) ?_
          refine lv_dup hx hb dX3_add_48 rfl ?_
          refine va_get (D := (dC, dI)) (ci := 3) (v := .int d_length_19) (C := RX3) (T := TX3) (N := 6) hx hb hts iwX3 hown hK hP 0 rfl rfl 1 (by decide) (hts (.fieldLink RX3 15 "SkyListeners$Text" "length" "I") (by decide +kernel)) (fun _ h9 => h9) rfl dX3_add_49 ?_
          refine lv_iconst (v := 1) hx hb dX3_add_52 (by decide) ?_
          refine lv_iadd hx hb dX3_add_53 ?_
          refine va_put (D := (dC, dI)) (ci := 3) (v := .int (d_length_19 + 1)) (ty := .int) (C := RX3) (T := TX3) (N := 6) hx hb hts iwX3 tyX3 tyX3_ok nmX3 hown hK hP hD hS 0 rfl rfl 1 (by decide) (hts (.fieldLink RX3 15 "SkyListeners$Text" "length" "I") (by decide +kernel)) (fun _ h9 => h9) rfl (by decide +kernel) rfl rfl (Nat.le_of_ble_eq_true rfl) dX3_add_54 (fun H locs hP hD hS => ?_)
          have hP : va_P (dC, dI) vwCl [(p_this, .inr (3, [.ref p_bytes, .int (d_length_19 + 1), .int d_next, .int d_start, .int d_token, .int d_value])), (p_bytes, .inl (cI, 250, .inl (f_X5_put 250 d_bytes_19 d_length_19 ((((x1.toUInt64 >>> ((8 * x4_19).toInt64.toUInt64 &&& Int64.toUInt64 63)).toInt64).toInt32) &&& 255))))] H := hP
          have hD : va_D A [(p_this, .inr (3, [.ref p_bytes, .int (d_length_19 + 1), .int d_next, .int d_start, .int d_token, .int d_value])), (p_bytes, .inl (cI, 250, .inl (f_X5_put 250 d_bytes_19 d_length_19 ((((x1.toUInt64 >>> ((8 * x4_19).toInt64.toUInt64 &&& Int64.toUInt64 63)).toInt64).toInt32) &&& 255))))] := hD
          refine lv_iinc (v := x4_19 + (-1)) (lv' := [(4, .int (x4_19 + (-1))), (0, .ref p_this), (1, .long x1)]) hx hb dX3_add_57 hl (k := 2) rfl rfl (by decide) rfl (fun ls hl => ?_)
          refine lv_goto (tgt := 19) hx hb dX3_add_60 (by decide) ?_
          exact ih19 (x4_19 + (-1)) (d_length_19 + 1) (f_X5_put 250 d_bytes_19 d_length_19 ((((x1.toUInt64 >>> ((8 * x4_19).toInt64.toUInt64 &&& Int64.toUInt64 63)).toInt64).toInt32) &&& 255)) H locs hP hD hS ls (lv_sub hl [1, 2, 0] rfl) hrun
    exact L19 FU (x3 - 1) d_length d_bytes H locs hP hD hS ls (lv_sub hl [1, 2, 0] rfl) hrun
  · rw [if_neg c_9] at hrun
    refine lv_iconst (v := 0) hx hb dX3_add_12 (by decide) ?_
    have hrun := Option.some.inj hrun
    subst hrun
    rw [hQ]
    exact W.zret (v := 0) (ty := .boolean) hx hb hr rfl (fun t ht hW => ⟨⟨0, (), rfl, rfl, by rw [ht]; exact hP, hD⟩, hS.F ht⟩) hS.2.2 dX3_add_13
-- SkyListeners$Text.empty
def f_X3_empty (d_length : Int32) : Int32 := (0)
set_option maxHeartbeats 4000000 in
set_option maxRecDepth 100000 in
theorem c_X3_empty (l : Launch) (dC : Nat → ClassId) (dI : Nat → Nat → Nat) (cI cZ : ClassId) (sz : Nat) (p_bytes p_this : Nat) (d_length : Int32) (d_next : Int32) (d_start : Int32) (d_token : Int32) (d_value : Int32) (out : Int32) (hrun : f_X3_empty d_length = out) : Met l yX3_empty wsX3_empty ({ frames := 0, cells := 0, slots := 0, locals := 0 } : Room) (va_Pc [.ref p_this] (PC dC dI cI cZ sz ([(p_this, .inr (3, [.ref p_bytes, .int d_length, .int d_next, .int d_start, .int d_token, .int d_value]))] : va_W))) (va_Qv (fun (_ : Unit) => True) (fun _ t => va_P (dC, dI) vwCl [(p_this, .inr (3, [.ref p_bytes, .int out, .int d_next, .int d_start, .int d_token, .int d_value]))] t.heap ∧ va_D (va_A ([(p_this, .inr (3, [.ref p_bytes, .int d_length, .int d_next, .int d_start, .int d_token, .int d_value]))] : va_W) sz) [(p_this, .inr (3, [.ref p_bytes, .int out, .int d_next, .int d_start, .int d_token, .int d_value]))]) (va_A ([(p_this, .inr (3, [.ref p_bytes, .int d_length, .int d_next, .int d_start, .int d_token, .int d_value]))] : va_W) sz)) 0 0 (va_A ([(p_this, .inr (3, [.ref p_bytes, .int d_length, .int d_next, .int d_start, .int d_token, .int d_value]))] : va_W) sz) := by
  refine Met.ofW (cc := cX3_empty) (maxL := 1) (ret := none) (by decide) rfl ?_
  intro p e s m args below meth c s₁ B hml hv
  obtain ⟨rfl, hsz, hP, hK, hD0, hN⟩ := hv
  have hx := B.exec
  have hb := B.bytes
  have hr := B.returns
  have hts := atoms_spec (ws := wsX3_empty) B.pre
  have hown : s.vm.findClass RX3 = some m.cls := findClass_of_methodNamed B.named
  have hlocks := B.notSynchronized
  subst hsz
  have hD := hD0.self (sz := s.heap.size)
  generalize hAe : va_A ([(p_this, .inr (3, [.ref p_bytes, .int d_length, .int d_next, .int d_start, .int d_token, .int d_value]))] : va_W) s.heap.size = A at hD ⊢
  have hA : ∀ q : Nat, s.heap.size ≤ q → A q := fun q h => by rw [← hAe]; exact Or.inr h
  have hS : va_S A s.heap s.heap [] := va_S.rf
  refine W_abs (fun Q hQ => ?_)
  have hl := lv_entry ([.ref p_this]) (n := 1) (Nat.le_of_ble_eq_true rfl)
  rw [lg_entry_eq]
  generalize (lg_sl ([.ref p_this]) ++ List.replicate (1 - (lg_sl ([.ref p_this])).length) Slot.unset).toArray = ls at hl ⊢
  have hl : lv_has ls 1 [(0, .ref p_this)] := hl
  rw [f_X3_empty] at hrun
  refine W_start (ws := [(p_this, .inr (3, [.ref p_bytes, .int d_length, .int d_next, .int d_start, .int d_token, .int d_value]))]) hP hS (fun H locs hP hS => ?_)
  have iwX3 : ∀ w ∈ wsX30, w ∈ wsX3_empty := by decide +kernel
  refine lv_aload_n hx hb dX3_empty_0 rfl (lv_at hl 0 rfl) ?_
  refine lv_iconst (v := 0) hx hb dX3_empty_1 (by decide) ?_
  refine va_put (D := (dC, dI)) (ci := 3) (v := .int 0) (ty := .int) (C := RX3) (T := TX3) (N := 6) hx hb hts iwX3 tyX3 tyX3_ok nmX3 hown hK hP hD hS 0 rfl rfl 1 (by decide) (hts (.fieldLink RX3 15 "SkyListeners$Text" "length" "I") (by decide +kernel)) (fun _ h9 => h9) rfl (by decide +kernel) rfl rfl (Nat.le_of_ble_eq_true rfl) dX3_empty_2 (fun H locs hP hD hS => ?_)
  have hP : va_P (dC, dI) vwCl [(p_this, .inr (3, [.ref p_bytes, .int 0, .int d_next, .int d_start, .int d_token, .int d_value]))] H := hP
  have hD : va_D A [(p_this, .inr (3, [.ref p_bytes, .int 0, .int d_next, .int d_start, .int d_token, .int d_value]))] := hD
  have hrun := hrun
  subst hrun
  rw [hQ]
  exact W.vret hx hb hr (fun t ht hW => ⟨⟨(), rfl, trivial, by rw [ht]; exact hP, hD⟩, hS.F ht⟩) hS.2.2 dX3_empty_5
