-- SkyListeners.at
def f_X5_at (n_a0 : Nat) (d_a0 : Nat → Int32) (x1 : Int32) : Int32 := (if x1 < 0 then ((-1)) else (if (Int32.ofNat n_a0) ≤ x1 then ((-1)) else (d_a0 x1.toNatClampNeg)))
set_option maxHeartbeats 4000000 in
set_option maxRecDepth 100000 in
theorem c_X5_at (l : Launch) (dC : Nat → ClassId) (dI : Nat → Nat → Nat) (cI cZ : ClassId) (sz : Nat) (p_a0 : Nat) (n_a0 : Nat) (d_a0 : Nat → Int32) (x1 : Int32) (hn_a0 : n_a0 < 2 ^ 31) (out : Int32) (hrun : f_X5_at n_a0 d_a0 x1 = out) : Met l yX5_at wsX5_at ({ frames := 0, cells := 0, slots := 0, locals := 0 } : Room) (va_Pc [.ref p_a0, .int x1] (PC dC dI cI cZ sz ([(p_a0, .inl (cI, n_a0, .inl d_a0))] : va_W))) (va_Qi (fun r (_ : Unit) => r = out) (fun _ t => va_P (dC, dI) vwCl [(p_a0, .inl (cI, n_a0, .inl d_a0))] t.heap ∧ va_D (va_A ([(p_a0, .inl (cI, n_a0, .inl d_a0))] : va_W) sz) [(p_a0, .inl (cI, n_a0, .inl d_a0))]) (va_A ([(p_a0, .inl (cI, n_a0, .inl d_a0))] : va_W) sz)) 0 0 (va_A ([(p_a0, .inl (cI, n_a0, .inl d_a0))] : va_W) sz) := by
  refine Met.ofW (cc := cX5_at) (maxL := 2) (ret := (some .int)) (by decide) rfl ?_
  intro p e s m args below meth c s₁ B hml hv
  obtain ⟨rfl, hsz, hP, hK, hD0, hN⟩ := hv
  have hx := B.exec
  have hb := B.bytes
  have hr := B.returns
  have hts := atoms_spec (ws := wsX5_at) B.pre
  have hown : s.vm.findClass RX5 = some m.cls := findClass_of_methodNamed B.named
  have hlocks := B.notSynchronized
  subst hsz
  have hD := hD0.self (sz := s.heap.size)
  generalize hAe : va_A ([(p_a0, .inl (cI, n_a0, .inl d_a0))] : va_W) s.heap.size = A at hD ⊢
  have hA : ∀ q : Nat, s.heap.size ≤ q → A q := fun q h => by rw [← hAe]; exact Or.inr h
  have hS : va_S A s.heap s.heap [] := va_S.rf
  refine W_abs (fun Q hQ => ?_)
  have hl := lv_entry ([.ref p_a0, .int x1]) (n := 2) (Nat.le_of_ble_eq_true rfl)
  rw [lg_entry_eq]
  generalize (lg_sl ([.ref p_a0, .int x1]) ++ List.replicate (2 - (lg_sl ([.ref p_a0, .int x1])).length) Slot.unset).toArray = ls at hl ⊢
  have hl : lv_has ls 2 [(0, .ref p_a0), (1, .int x1)] := hl
  rw [f_X5_at] at hrun
  refine W_start (ws := [(p_a0, .inl (cI, n_a0, .inl d_a0))]) hP hS (fun H locs hP hS => ?_)
  refine lv_aload_n hx hb dX5_at_0 rfl (lv_at hl 0 rfl) ?_
  refine lv_ifnull hx hb dX5_at_1 ?_
  refine lv_iload_n hx hb dX5_at_4 rfl (lv_at hl 1 rfl) ?_
  refine lv_if_lt (tgt := 20) hx hb dX5_at_5 (by decide) (fun c_5 => ?_) (fun c_5 => ?_)
  · rw [if_pos c_5] at hrun
    refine lv_iconst (v := (-1)) hx hb dX5_at_20 (by decide) ?_
    have hrun := hrun
    subst hrun
    rw [hQ]
    exact W.iret (v := (-1)) hx hb hr (fun t ht hW => ⟨⟨(-1), (), rfl, rfl, by rw [ht]; exact hP, hD⟩, hS.F ht⟩) hS.2.2 dX5_at_21
  · rw [if_neg c_5] at hrun
    refine lv_iload_n hx hb dX5_at_8 rfl (lv_at hl 1 rfl) ?_
    refine lv_aload_n hx hb dX5_at_9 rfl (lv_at hl 0 rfl) ?_
    refine va_alen hx hb hK hP 0 0 rfl rfl (v := Int32.ofNat n_a0) rfl dX5_at_10 ?_
    refine lv_icmp_ge (tgt := 20) hx hb dX5_at_11 (by decide) (fun c_11 => ?_) (fun c_11 => ?_)
    · rw [if_pos c_11] at hrun
      refine lv_iconst (v := (-1)) hx hb dX5_at_20 (by decide) ?_
      have hrun := hrun
      subst hrun
      rw [hQ]
      exact W.iret (v := (-1)) hx hb hr (fun t ht hW => ⟨⟨(-1), (), rfl, rfl, by rw [ht]; exact hP, hD⟩, hS.F ht⟩) hS.2.2 dX5_at_21
    · rw [if_neg c_11] at hrun
      refine lv_aload_n hx hb dX5_at_14 rfl (lv_at hl 0 rfl) ?_
      refine lv_iload_n hx hb dX5_at_15 rfl (lv_at hl 1 rfl) ?_
      refine va_iald hx hb hK hP 0 0 rfl rfl (vp_in_at hn_a0 c_5 c_11) dX5_at_16 ?_
      refine lv_goto (tgt := 21) hx hb dX5_at_17 (by decide) ?_
      have hrun := hrun
      subst hrun
      rw [hQ]
      exact W.iret (v := d_a0 x1.toNatClampNeg) hx hb hr (fun t ht hW => ⟨⟨d_a0 x1.toNatClampNeg, (), rfl, rfl, by rw [ht]; exact hP, hD⟩, hS.F ht⟩) hS.2.2 dX5_at_21
-- SkyListeners.put
def f_X5_put (n_a0 : Nat) (d_a0 : Nat → Int32) (x1 : Int32) (x2 : Int32) : (Nat → Int32) := (if x1 < 0 then (d_a0) else (if (Int32.ofNat n_a0) ≤ x1 then (d_a0) else (upd d_a0 x1.toNatClampNeg x2)))
set_option maxHeartbeats 4000000 in
set_option maxRecDepth 100000 in
theorem c_X5_put (l : Launch) (dC : Nat → ClassId) (dI : Nat → Nat → Nat) (cI cZ : ClassId) (sz : Nat) (p_a0 : Nat) (n_a0 : Nat) (d_a0 : Nat → Int32) (x1 : Int32) (x2 : Int32) (hn_a0 : n_a0 < 2 ^ 31) (out : (Nat → Int32)) (hrun : f_X5_put n_a0 d_a0 x1 x2 = out) : Met l yX5_put wsX5_put ({ frames := 0, cells := 0, slots := 0, locals := 0 } : Room) (va_Pc [.ref p_a0, .int x1, .int x2] (PC dC dI cI cZ sz ([(p_a0, .inl (cI, n_a0, .inl d_a0))] : va_W))) (va_Qv (fun (_ : Unit) => True) (fun _ t => va_P (dC, dI) vwCl [(p_a0, .inl (cI, n_a0, .inl out))] t.heap ∧ va_D (va_A ([(p_a0, .inl (cI, n_a0, .inl d_a0))] : va_W) sz) [(p_a0, .inl (cI, n_a0, .inl out))]) (va_A ([(p_a0, .inl (cI, n_a0, .inl d_a0))] : va_W) sz)) 0 0 (va_A ([(p_a0, .inl (cI, n_a0, .inl d_a0))] : va_W) sz) := by
  refine Met.ofW (cc := cX5_put) (maxL := 3) (ret := none) (by decide) rfl ?_
  intro p e s m args below meth c s₁ B hml hv
  obtain ⟨rfl, hsz, hP, hK, hD0, hN⟩ := hv
  have hx := B.exec
  have hb := B.bytes
  have hr := B.returns
  have hts := atoms_spec (ws := wsX5_put) B.pre
  have hown : s.vm.findClass RX5 = some m.cls := findClass_of_methodNamed B.named
  have hlocks := B.notSynchronized
  subst hsz
  have hD := hD0.self (sz := s.heap.size)
  generalize hAe : va_A ([(p_a0, .inl (cI, n_a0, .inl d_a0))] : va_W) s.heap.size = A at hD ⊢
  have hA : ∀ q : Nat, s.heap.size ≤ q → A q := fun q h => by rw [← hAe]; exact Or.inr h
  have hS : va_S A s.heap s.heap [] := va_S.rf
  refine W_abs (fun Q hQ => ?_)
  have hl := lv_entry ([.ref p_a0, .int x1, .int x2]) (n := 3) (Nat.le_of_ble_eq_true rfl)
  rw [lg_entry_eq]
  generalize (lg_sl ([.ref p_a0, .int x1, .int x2]) ++ List.replicate (3 - (lg_sl ([.ref p_a0, .int x1, .int x2])).length) Slot.unset).toArray = ls at hl ⊢
  have hl : lv_has ls 3 [(0, .ref p_a0), (1, .int x1), (2, .int x2)] := hl
  rw [f_X5_put] at hrun
  refine W_start (ws := [(p_a0, .inl (cI, n_a0, .inl d_a0))]) hP hS (fun H locs hP hS => ?_)
  refine lv_aload_n hx hb dX5_put_0 rfl (lv_at hl 0 rfl) ?_
  refine lv_ifnull hx hb dX5_put_1 ?_
  refine lv_iload_n hx hb dX5_put_4 rfl (lv_at hl 1 rfl) ?_
  refine lv_if_lt (tgt := 18) hx hb dX5_put_5 (by decide) (fun c_5 => ?_) (fun c_5 => ?_)
  · rw [if_pos c_5] at hrun
    have hrun := hrun
    subst hrun
    rw [hQ]
    exact W.vret hx hb hr (fun t ht hW => ⟨⟨(), rfl, trivial, by rw [ht]; exact hP, hD⟩, hS.F ht⟩) hS.2.2 dX5_put_18
  · rw [if_neg c_5] at hrun
    refine lv_iload_n hx hb dX5_put_8 rfl (lv_at hl 1 rfl) ?_
    refine lv_aload_n hx hb dX5_put_9 rfl (lv_at hl 0 rfl) ?_
    refine va_alen hx hb hK hP 0 0 rfl rfl (v := Int32.ofNat n_a0) rfl dX5_put_10 ?_
    refine lv_icmp_ge (tgt := 18) hx hb dX5_put_11 (by decide) (fun c_11 => ?_) (fun c_11 => ?_)
    · rw [if_pos c_11] at hrun
      have hrun := hrun
      subst hrun
      rw [hQ]
      exact W.vret hx hb hr (fun t ht hW => ⟨⟨(), rfl, trivial, by rw [ht]; exact hP, hD⟩, hS.F ht⟩) hS.2.2 dX5_put_18
    · rw [if_neg c_11] at hrun
      refine lv_aload_n hx hb dX5_put_14 rfl (lv_at hl 0 rfl) ?_
      refine lv_iload_n hx hb dX5_put_15 rfl (lv_at hl 1 rfl) ?_
      refine lv_iload_n hx hb dX5_put_16 rfl (lv_at hl 2 rfl) ?_
      refine va_iast hx hb hK hP hD hS 0 0 rfl rfl (vp_in_at hn_a0 c_5 c_11) dX5_put_17 (fun H locs hP hD hS => ?_)
      have hP : va_P (dC, dI) vwCl [(p_a0, .inl (cI, n_a0, .inl (upd d_a0 x1.toNatClampNeg x2)))] H := hP
      have hD : va_D A [(p_a0, .inl (cI, n_a0, .inl (upd d_a0 x1.toNatClampNeg x2)))] := hD
      have hrun := hrun
      subst hrun
      rw [hQ]
      exact W.vret hx hb hr (fun t ht hW => ⟨⟨(), rfl, trivial, by rw [ht]; exact hP, hD⟩, hS.F ht⟩) hS.2.2 dX5_put_18
-- SkyListeners$Rows.has
def f_X2_has (d_many : Int32) (x1 : Int32) (x2 : Int32) : Int32 := (if x1 < 0 then (0) else (if d_many ≤ x1 then (0) else (if x2 < 0 then (0) else (if 4 ≤ x2 then (0) else (1)))))
theorem b_X2_has (d_many : Int32) (x1 : Int32) (x2 : Int32) : f_X2_has d_many x1 x2 = 0 ∨ f_X2_has d_many x1 x2 = 1 := by unfold f_X2_has; first | (repeat' split) <;> first | exact Or.inl rfl | exact Or.inr rfl
set_option maxHeartbeats 4000000 in
set_option maxRecDepth 100000 in
theorem c_X2_has (l : Launch) (dC : Nat → ClassId) (dI : Nat → Nat → Nat) (cI cZ : ClassId) (sz : Nat) (p_cells p_this : Nat) (d_most : Int32) (d_many : Int32) (x1 : Int32) (x2 : Int32) (out : Int32) (hrun : f_X2_has d_many x1 x2 = out) : Met l yX2_has wsX2_has ({ frames := 0, cells := 0, slots := 0, locals := 0 } : Room) (va_Pc [.ref p_this, .int x1, .int x2] (PC dC dI cI cZ sz ([(p_this, .inr (2, [.int d_most, .ref p_cells, .int d_many]))] : va_W))) (va_Qi (fun r (_ : Unit) => r = out) (fun _ t => va_P (dC, dI) vwCl [(p_this, .inr (2, [.int d_most, .ref p_cells, .int d_many]))] t.heap ∧ va_D (va_A ([(p_this, .inr (2, [.int d_most, .ref p_cells, .int d_many]))] : va_W) sz) [(p_this, .inr (2, [.int d_most, .ref p_cells, .int d_many]))]) (va_A ([(p_this, .inr (2, [.int d_most, .ref p_cells, .int d_many]))] : va_W) sz)) 0 0 (va_A ([(p_this, .inr (2, [.int d_most, .ref p_cells, .int d_many]))] : va_W) sz) := by
  refine Met.ofW (cc := cX2_has) (maxL := 3) (ret := (some .boolean)) (by decide) rfl ?_
  intro p e s m args below meth c s₁ B hml hv
  obtain ⟨rfl, hsz, hP, hK, hD0, hN⟩ := hv
  have hx := B.exec
  have hb := B.bytes
  have hr := B.returns
  have hts := atoms_spec (ws := wsX2_has) B.pre
  have hown : s.vm.findClass RX2 = some m.cls := findClass_of_methodNamed B.named
  have hlocks := B.notSynchronized
  subst hsz
  have hD := hD0.self (sz := s.heap.size)
  generalize hAe : va_A ([(p_this, .inr (2, [.int d_most, .ref p_cells, .int d_many]))] : va_W) s.heap.size = A at hD ⊢
  have hA : ∀ q : Nat, s.heap.size ≤ q → A q := fun q h => by rw [← hAe]; exact Or.inr h
  have hS : va_S A s.heap s.heap [] := va_S.rf
  refine W_abs (fun Q hQ => ?_)
  have hl := lv_entry ([.ref p_this, .int x1, .int x2]) (n := 3) (Nat.le_of_ble_eq_true rfl)
  rw [lg_entry_eq]
  generalize (lg_sl ([.ref p_this, .int x1, .int x2]) ++ List.replicate (3 - (lg_sl ([.ref p_this, .int x1, .int x2])).length) Slot.unset).toArray = ls at hl ⊢
  have hl : lv_has ls 3 [(0, .ref p_this), (1, .int x1), (2, .int x2)] := hl
  rw [f_X2_has] at hrun
  refine W_start (ws := [(p_this, .inr (2, [.int d_most, .ref p_cells, .int d_many]))]) hP hS (fun H locs hP hS => ?_)
  have iwX2 : ∀ w ∈ wsX20, w ∈ wsX2_has := by decide +kernel
  refine lv_iload_n hx hb dX2_has_0 rfl (lv_at hl 1 rfl) ?_
  refine lv_if_lt (tgt := 25) hx hb dX2_has_1 (by decide) (fun c_1 => ?_) (fun c_1 => ?_)
  · rw [if_pos c_1] at hrun
    refine lv_iconst (v := 0) hx hb dX2_has_25 (by decide) ?_
    have hrun := hrun
    subst hrun
    rw [hQ]
    exact W.zret (v := 0) (ty := .boolean) hx hb hr rfl (fun t ht hW => ⟨⟨0, (), rfl, rfl, by rw [ht]; exact hP, hD⟩, hS.F ht⟩) hS.2.2 dX2_has_26
  · rw [if_neg c_1] at hrun
    refine lv_iload_n hx hb dX2_has_4 rfl (lv_at hl 1 rfl) ?_
    refine lv_aload_n hx hb dX2_has_5 rfl (lv_at hl 0 rfl) ?_
    refine va_get (D := (dC, dI)) (ci := 2) (v := .int d_many) (C := RX2) (T := TX2) (N := 3) hx hb hts iwX2 hown hK hP 0 rfl rfl 2 (by decide) (hts (.fieldLink RX2 15 "SkyListeners$Rows" "many" "I") (by decide +kernel)) (fun _ h9 => h9) rfl dX2_has_6 ?_
    refine lv_icmp_ge (tgt := 25) hx hb dX2_has_9 (by decide) (fun c_9 => ?_) (fun c_9 => ?_)
    · rw [if_pos c_9] at hrun
      refine lv_iconst (v := 0) hx hb dX2_has_25 (by decide) ?_
      have hrun := hrun
      subst hrun
      rw [hQ]
      exact W.zret (v := 0) (ty := .boolean) hx hb hr rfl (fun t ht hW => ⟨⟨0, (), rfl, rfl, by rw [ht]; exact hP, hD⟩, hS.F ht⟩) hS.2.2 dX2_has_26
    · rw [if_neg c_9] at hrun
      refine lv_iload_n hx hb dX2_has_12 rfl (lv_at hl 2 rfl) ?_
      refine lv_if_lt (tgt := 25) hx hb dX2_has_13 (by decide) (fun c_13 => ?_) (fun c_13 => ?_)
      · rw [if_pos c_13] at hrun
        refine lv_iconst (v := 0) hx hb dX2_has_25 (by decide) ?_
        have hrun := hrun
        subst hrun
        rw [hQ]
        exact W.zret (v := 0) (ty := .boolean) hx hb hr rfl (fun t ht hW => ⟨⟨0, (), rfl, rfl, by rw [ht]; exact hP, hD⟩, hS.F ht⟩) hS.2.2 dX2_has_26
      · rw [if_neg c_13] at hrun
        refine lv_iload_n hx hb dX2_has_16 rfl (lv_at hl 2 rfl) ?_
        refine lv_iconst (v := 4) hx hb dX2_has_17 (by decide) ?_
        refine lv_icmp_ge (tgt := 25) hx hb dX2_has_18 (by decide) (fun c_18 => ?_) (fun c_18 => ?_)
        · rw [if_pos c_18] at hrun
          refine lv_iconst (v := 0) hx hb dX2_has_25 (by decide) ?_
          have hrun := hrun
          subst hrun
          rw [hQ]
          exact W.zret (v := 0) (ty := .boolean) hx hb hr rfl (fun t ht hW => ⟨⟨0, (), rfl, rfl, by rw [ht]; exact hP, hD⟩, hS.F ht⟩) hS.2.2 dX2_has_26
        · rw [if_neg c_18] at hrun
          refine lv_iconst (v := 1) hx hb dX2_has_21 (by decide) ?_
          refine lv_goto (tgt := 26) hx hb dX2_has_22 (by decide) ?_
          have hrun := hrun
          subst hrun
          rw [hQ]
          exact W.zret (v := 1) (ty := .boolean) hx hb hr rfl (fun t ht hW => ⟨⟨1, (), rfl, rfl, by rw [ht]; exact hP, hD⟩, hS.F ht⟩) hS.2.2 dX2_has_26
-- SkyListeners$Rows.isFull
def f_X2_isFull (d_most : Int32) (d_many : Int32) : Int32 := (if d_many < d_most then (0) else (1))
theorem b_X2_isFull (d_most : Int32) (d_many : Int32) : f_X2_isFull d_most d_many = 0 ∨ f_X2_isFull d_most d_many = 1 := by unfold f_X2_isFull; first | (repeat' split) <;> first | exact Or.inl rfl | exact Or.inr rfl
set_option maxHeartbeats 4000000 in
set_option maxRecDepth 100000 in
theorem c_X2_isFull (l : Launch) (dC : Nat → ClassId) (dI : Nat → Nat → Nat) (cI cZ : ClassId) (sz : Nat) (p_cells p_this : Nat) (d_most : Int32) (d_many : Int32) (out : Int32) (hrun : f_X2_isFull d_most d_many = out) : Met l yX2_isFull wsX2_isFull ({ frames := 0, cells := 0, slots := 0, locals := 0 } : Room) (va_Pc [.ref p_this] (PC dC dI cI cZ sz ([(p_this, .inr (2, [.int d_most, .ref p_cells, .int d_many]))] : va_W))) (va_Qi (fun r (_ : Unit) => r = out) (fun _ t => va_P (dC, dI) vwCl [(p_this, .inr (2, [.int d_most, .ref p_cells, .int d_many]))] t.heap ∧ va_D (va_A ([(p_this, .inr (2, [.int d_most, .ref p_cells, .int d_many]))] : va_W) sz) [(p_this, .inr (2, [.int d_most, .ref p_cells, .int d_many]))]) (va_A ([(p_this, .inr (2, [.int d_most, .ref p_cells, .int d_many]))] : va_W) sz)) 0 0 (va_A ([(p_this, .inr (2, [.int d_most, .ref p_cells, .int d_many]))] : va_W) sz) := by
  refine Met.ofW (cc := cX2_isFull) (maxL := 1) (ret := (some .boolean)) (by decide) rfl ?_
  intro p e s m args below meth c s₁ B hml hv
  obtain ⟨rfl, hsz, hP, hK, hD0, hN⟩ := hv
  have hx := B.exec
  have hb := B.bytes
  have hr := B.returns
  have hts := atoms_spec (ws := wsX2_isFull) B.pre
  have hown : s.vm.findClass RX2 = some m.cls := findClass_of_methodNamed B.named
  have hlocks := B.notSynchronized
  subst hsz
  have hD := hD0.self (sz := s.heap.size)
  generalize hAe : va_A ([(p_this, .inr (2, [.int d_most, .ref p_cells, .int d_many]))] : va_W) s.heap.size = A at hD ⊢
  have hA : ∀ q : Nat, s.heap.size ≤ q → A q := fun q h => by rw [← hAe]; exact Or.inr h
  have hS : va_S A s.heap s.heap [] := va_S.rf
  refine W_abs (fun Q hQ => ?_)
  have hl := lv_entry ([.ref p_this]) (n := 1) (Nat.le_of_ble_eq_true rfl)
  rw [lg_entry_eq]
  generalize (lg_sl ([.ref p_this]) ++ List.replicate (1 - (lg_sl ([.ref p_this])).length) Slot.unset).toArray = ls at hl ⊢
  have hl : lv_has ls 1 [(0, .ref p_this)] := hl
  rw [f_X2_isFull] at hrun
  refine W_start (ws := [(p_this, .inr (2, [.int d_most, .ref p_cells, .int d_many]))]) hP hS (fun H locs hP hS => ?_)
  have iwX2 : ∀ w ∈ wsX20, w ∈ wsX2_isFull := by decide +kernel
  refine lv_aload_n hx hb dX2_isFull_0 rfl (lv_at hl 0 rfl) ?_
  refine va_get (D := (dC, dI)) (ci := 2) (v := .int d_many) (C := RX2) (T := TX2) (N := 3) hx hb hts iwX2 hown hK hP 0 rfl rfl 2 (by decide) (hts (.fieldLink RX2 15 "SkyListeners$Rows" "many" "I") (by decide +kernel)) (fun _ h9 => h9) rfl dX2_isFull_1 ?_
  refine lv_aload_n hx hb dX2_isFull_4 rfl (lv_at hl 0 rfl) ?_
  refine va_get (D := (dC, dI)) (ci := 2) (v := .int d_most) (C := RX2) (T := TX2) (N := 3) hx hb hts iwX2 hown hK hP 0 rfl rfl 0 (by decide) (hts (.fieldLink RX2 25 "SkyListeners$Rows" "most" "I") (by decide +kernel)) (fun _ h9 => h9) rfl dX2_isFull_5 ?_
  refine lv_icmp_lt (tgt := 15) hx hb dX2_isFull_8 (by decide) (fun c_8 => ?_) (fun c_8 => ?_)
  · rw [if_pos c_8] at hrun
    refine lv_iconst (v := 0) hx hb dX2_isFull_15 (by decide) ?_
    have hrun := hrun
    subst hrun
    rw [hQ]
    exact W.zret (v := 0) (ty := .boolean) hx hb hr rfl (fun t ht hW => ⟨⟨0, (), rfl, rfl, by rw [ht]; exact hP, hD⟩, hS.F ht⟩) hS.2.2 dX2_isFull_16
  · rw [if_neg c_8] at hrun
    refine lv_iconst (v := 1) hx hb dX2_isFull_11 (by decide) ?_
    refine lv_goto (tgt := 16) hx hb dX2_isFull_12 (by decide) ?_
    have hrun := hrun
    subst hrun
    rw [hQ]
    exact W.zret (v := 1) (ty := .boolean) hx hb hr rfl (fun t ht hW => ⟨⟨1, (), rfl, rfl, by rw [ht]; exact hP, hD⟩, hS.F ht⟩) hS.2.2 dX2_isFull_16
-- SkyListeners$Rows.empty
def f_X2_empty (d_many : Int32) : Int32 := (0)
set_option maxHeartbeats 4000000 in
set_option maxRecDepth 100000 in
theorem c_X2_empty (l : Launch) (dC : Nat → ClassId) (dI : Nat → Nat → Nat) (cI cZ : ClassId) (sz : Nat) (p_cells p_this : Nat) (d_most : Int32) (d_many : Int32) (out : Int32) (hrun : f_X2_empty d_many = out) : Met l yX2_empty wsX2_empty ({ frames := 0, cells := 0, slots := 0, locals := 0 } : Room) (va_Pc [.ref p_this] (PC dC dI cI cZ sz ([(p_this, .inr (2, [.int d_most, .ref p_cells, .int d_many]))] : va_W))) (va_Qv (fun (_ : Unit) => True) (fun _ t => va_P (dC, dI) vwCl [(p_this, .inr (2, [.int d_most, .ref p_cells, .int out]))] t.heap ∧ va_D (va_A ([(p_this, .inr (2, [.int d_most, .ref p_cells, .int d_many]))] : va_W) sz) [(p_this, .inr (2, [.int d_most, .ref p_cells, .int out]))]) (va_A ([(p_this, .inr (2, [.int d_most, .ref p_cells, .int d_many]))] : va_W) sz)) 0 0 (va_A ([(p_this, .inr (2, [.int d_most, .ref p_cells, .int d_many]))] : va_W) sz) := by
  refine Met.ofW (cc := cX2_empty) (maxL := 1) (ret := none) (by decide) rfl ?_
  intro p e s m args below meth c s₁ B hml hv
  obtain ⟨rfl, hsz, hP, hK, hD0, hN⟩ := hv
  have hx := B.exec
  have hb := B.bytes
  have hr := B.returns
  have hts := atoms_spec (ws := wsX2_empty) B.pre
  have hown : s.vm.findClass RX2 = some m.cls := findClass_of_methodNamed B.named
  have hlocks := B.notSynchronized
  subst hsz
  have hD := hD0.self (sz := s.heap.size)
  generalize hAe : va_A ([(p_this, .inr (2, [.int d_most, .ref p_cells, .int d_many]))] : va_W) s.heap.size = A at hD ⊢
  have hA : ∀ q : Nat, s.heap.size ≤ q → A q := fun q h => by rw [← hAe]; exact Or.inr h
  have hS : va_S A s.heap s.heap [] := va_S.rf
  refine W_abs (fun Q hQ => ?_)
  have hl := lv_entry ([.ref p_this]) (n := 1) (Nat.le_of_ble_eq_true rfl)
  rw [lg_entry_eq]
  generalize (lg_sl ([.ref p_this]) ++ List.replicate (1 - (lg_sl ([.ref p_this])).length) Slot.unset).toArray = ls at hl ⊢
  have hl : lv_has ls 1 [(0, .ref p_this)] := hl
  rw [f_X2_empty] at hrun
  refine W_start (ws := [(p_this, .inr (2, [.int d_most, .ref p_cells, .int d_many]))]) hP hS (fun H locs hP hS => ?_)
  have iwX2 : ∀ w ∈ wsX20, w ∈ wsX2_empty := by decide +kernel
  refine lv_aload_n hx hb dX2_empty_0 rfl (lv_at hl 0 rfl) ?_
  refine lv_iconst (v := 0) hx hb dX2_empty_1 (by decide) ?_
  refine va_put (D := (dC, dI)) (ci := 2) (v := .int 0) (ty := .int) (C := RX2) (T := TX2) (N := 3) hx hb hts iwX2 tyX2 tyX2_ok nmX2 hown hK hP hD hS 0 rfl rfl 2 (by decide) (hts (.fieldLink RX2 15 "SkyListeners$Rows" "many" "I") (by decide +kernel)) (fun _ h9 => h9) rfl (by decide +kernel) rfl rfl (Nat.le_of_ble_eq_true rfl) dX2_empty_2 (fun H locs hP hD hS => ?_)
  have hP : va_P (dC, dI) vwCl [(p_this, .inr (2, [.int d_most, .ref p_cells, .int 0]))] H := hP
  have hD : va_D A [(p_this, .inr (2, [.int d_most, .ref p_cells, .int 0]))] := hD
  have hrun := hrun
  subst hrun
  rw [hQ]
  exact W.vret hx hb hr (fun t ht hW => ⟨⟨(), rfl, trivial, by rw [ht]; exact hP, hD⟩, hS.F ht⟩) hS.2.2 dX2_empty_5
-- SkyListeners$Rows.number
def f_X2_number (d_many : Int32) (d_cells : Nat → Int32) (x1 : Int32) (x2 : Int32) : Int32 := (if (f_X2_has d_many x1 x2) = 0 then ((-1)) else ((f_X5_at 48 d_cells ((x1 * 4) + x2))))
set_option maxHeartbeats 4000000 in
set_option maxRecDepth 100000 in
theorem c_X2_number (l : Launch) (dC : Nat → ClassId) (dI : Nat → Nat → Nat) (cI cZ : ClassId) (sz : Nat) (p_cells p_this : Nat) (d_most : Int32) (d_many : Int32) (d_cells : Nat → Int32) (x1 : Int32) (x2 : Int32) (out : Int32) (hrun : f_X2_number d_many d_cells x1 x2 = out) : Met l yX2_number wsX2_number ({ frames := 1, cells := 0, slots := 0, locals := 22 } : Room) (va_Pc [.ref p_this, .int x1, .int x2] (PC dC dI cI cZ sz ([(p_this, .inr (2, [.int d_most, .ref p_cells, .int d_many])), (p_cells, .inl (cI, 48, .inl d_cells))] : va_W))) (va_Qi (fun r (_ : Unit) => r = out) (fun _ t => va_P (dC, dI) vwCl [(p_this, .inr (2, [.int d_most, .ref p_cells, .int d_many])), (p_cells, .inl (cI, 48, .inl d_cells))] t.heap ∧ va_D (va_A ([(p_this, .inr (2, [.int d_most, .ref p_cells, .int d_many])), (p_cells, .inl (cI, 48, .inl d_cells))] : va_W) sz) [(p_this, .inr (2, [.int d_most, .ref p_cells, .int d_many])), (p_cells, .inl (cI, 48, .inl d_cells))]) (va_A ([(p_this, .inr (2, [.int d_most, .ref p_cells, .int d_many])), (p_cells, .inl (cI, 48, .inl d_cells))] : va_W) sz)) 0 0 (va_A ([(p_this, .inr (2, [.int d_most, .ref p_cells, .int d_many])), (p_cells, .inl (cI, 48, .inl d_cells))] : va_W) sz) := by
  refine Met.ofW (cc := cX2_number) (maxL := 3) (ret := (some .int)) (by decide) rfl ?_
  intro p e s m args below meth c s₁ B hml hv
  obtain ⟨rfl, hsz, hP, hK, hD0, hN⟩ := hv
  have hx := B.exec
  have hb := B.bytes
  have hr := B.returns
  have hts := atoms_spec (ws := wsX2_number) B.pre
  have hown : s.vm.findClass RX2 = some m.cls := findClass_of_methodNamed B.named
  have hlocks := B.notSynchronized
  subst hsz
  have hD := hD0.self (sz := s.heap.size)
  generalize hAe : va_A ([(p_this, .inr (2, [.int d_most, .ref p_cells, .int d_many])), (p_cells, .inl (cI, 48, .inl d_cells))] : va_W) s.heap.size = A at hD ⊢
  have hA : ∀ q : Nat, s.heap.size ≤ q → A q := fun q h => by rw [← hAe]; exact Or.inr h
  have hS : va_S A s.heap s.heap [] := va_S.rf
  refine W_abs (fun Q hQ => ?_)
  have hl := lv_entry ([.ref p_this, .int x1, .int x2]) (n := 3) (Nat.le_of_ble_eq_true rfl)
  rw [lg_entry_eq]
  generalize (lg_sl ([.ref p_this, .int x1, .int x2]) ++ List.replicate (3 - (lg_sl ([.ref p_this, .int x1, .int x2])).length) Slot.unset).toArray = ls at hl ⊢
  have hl : lv_has ls 3 [(0, .ref p_this), (1, .int x1), (2, .int x2)] := hl
  rw [f_X2_number] at hrun
  refine W_start (ws := [(p_this, .inr (2, [.int d_most, .ref p_cells, .int d_many])), (p_cells, .inl (cI, 48, .inl d_cells))]) hP hS (fun H locs hP hS => ?_)
  have iwX2 : ∀ w ∈ wsX20, w ∈ wsX2_number := by decide +kernel
  refine lv_aload_n hx hb dX2_number_0 rfl (lv_at hl 0 rfl) ?_
  refine lv_iload_n hx hb dX2_number_1 rfl (lv_at hl 1 rfl) ?_
  refine lv_iload_n hx hb dX2_number_2 rfl (lv_at hl 2 rfl) ?_
  have hPc : va_P (dC, dI) vwCl [(p_this, .inr (2, [.int d_most, .ref p_cells, .int d_many]))] H := hP.sub [0] rfl
  have hDc : va_D A [(p_this, .inr (2, [.int d_most, .ref p_cells, .int d_many]))] := hD.sub [0] (by decide) rfl
  have hFc := va_free (wc := [(p_this, .inr (2, [.int d_most, .ref p_cells, .int d_many]))]) hD hS hA [0] rfl
  refine va_calli (va_runV (As := [.int x1, .int x2]) (rest := []) ⟨hx, hb, hml, hown, hts⟩ (c_X2_has l dC dI cI cZ H.size p_cells p_this d_most d_many x1 x2 (f_X2_has d_many x1 x2) rfl) (cwV 2 hts gX2_number_X2_has rfl rfl rfl (by decide +kernel) ⟨Nat.le_of_ble_eq_true rfl, Nat.le_of_ble_eq_true rfl⟩) ⟨fun a U g mk q => ⟨q.1, PC.mv q.2⟩, va_recv hK hP (ci := 2) (q0 := 0) rfl rfl, fun U hU hW => ⟨rfl, PC.of hU hW hPc hK hDc hN⟩⟩ rfl rfl hl.1 rfl (lv_room (Nat.le_of_ble_eq_true rfl)) dX2_number_3 ⟨Nat.zero_le _, Nat.zero_le _⟩) hS (fun q _ h => hFc q h) hFc (fun r_3 u t H1 locs ht hvm hw hB hz1 hk1 hS => ?_)
  obtain ⟨hP1, hD1⟩ := hB
  try dsimp only at hw
  rw [hw]
  rw [ht] at hP1
  have hP : va_P (dC, dI) vwCl [(p_this, .inr (2, [.int d_most, .ref p_cells, .int d_many])), (p_cells, .inl (cI, 48, .inl d_cells))] H1 := join_ro hP hD [0] rfl hk1 hP1
  clear hPc hDc hFc hk1 hz1 hP1 hD1 ht hvm
  generalize H1 = H at hP hS ⊢
  refine lv_if_eq (tgt := 24) hx hb dX2_number_6 (by decide) (fun c_6 => ?_) (fun c_6 => ?_)
  · rw [if_pos c_6] at hrun
    refine lv_iconst (v := (-1)) hx hb dX2_number_24 (by decide) ?_
    have hrun := hrun
    subst hrun
    rw [hQ]
    exact W.iret (v := (-1)) hx hb hr (fun t ht hW => ⟨⟨(-1), (), rfl, rfl, by rw [ht]; exact hP, hD⟩, hS.F ht⟩) hS.2.2 dX2_number_25
  · rw [if_neg c_6] at hrun
    refine lv_aload_n hx hb dX2_number_9 rfl (lv_at hl 0 rfl) ?_
    refine va_get (D := (dC, dI)) (ci := 2) (v := .ref p_cells) (C := RX2) (T := TX2) (N := 3) hx hb hts iwX2 hown hK hP 0 rfl rfl 1 (by decide) (hts (.fieldLink RX2 11 "SkyListeners$Rows" "cells" "[I") (by decide +kernel)) (fun _ h9 => h9) rfl dX2_number_10 ?_
    refine lv_iload_n hx hb dX2_number_13 rfl (lv_at hl 1 rfl) ?_
    refine lv_iconst (v := 4) hx hb dX2_number_14 (by decide) ?_
    refine lv_imul hx hb dX2_number_15 ?_
    refine lv_iload_n hx hb dX2_number_16 rfl (lv_at hl 2 rfl) ?_
    refine lv_iadd hx hb dX2_number_17 ?_
    have hPc : va_P (dC, dI) vwCl [(p_cells, .inl (cI, 48, .inl d_cells))] H := hP.sub [1] rfl
    have hDc : va_D A [(p_cells, .inl (cI, 48, .inl d_cells))] := hD.sub [1] (by decide) rfl
    have hFc := va_free (wc := [(p_cells, .inl (cI, 48, .inl d_cells))]) hD hS hA [1] rfl
    refine va_calli (va_runSN (As := [.ref p_cells, .int ((x1 * 4) + x2)]) (rest := []) ⟨hx, hb, hml, hown, hts⟩ (c_X5_at l dC dI cI cZ H.size p_cells 48 d_cells ((x1 * 4) + x2) (by decide) (f_X5_at 48 d_cells ((x1 * 4) + x2)) rfl) ⟨va_cnB 2 hts gX2_number_X5_at_n40 rfl rfl rfl hN.2.2.2.2.2 (hts (.initialized RX5) (by decide +kernel)) (by decide +kernel) ⟨Nat.le_of_ble_eq_true rfl, Nat.le_of_ble_eq_true rfl⟩, hts (.static yX5_at) (by decide +kernel), trivial⟩ ⟨fun a U g mk q => ⟨q.1, PC.mv q.2⟩, fun U hU hW => ⟨rfl, PC.of hU hW hPc hK hDc hN⟩⟩ rfl rfl hl.1 rfl (lv_room (Nat.le_of_ble_eq_true rfl)) dX2_number_18 ⟨Nat.zero_le _, Nat.zero_le _⟩) hS (fun q _ h => hFc q h) hFc (fun r_18 u t H1 locs ht hvm hw hB hz1 hk1 hS => ?_)
    obtain ⟨hP1, hD1⟩ := hB
    try dsimp only at hw
    rw [hw]
    rw [ht] at hP1
    have hP : va_P (dC, dI) vwCl [(p_this, .inr (2, [.int d_most, .ref p_cells, .int d_many])), (p_cells, .inl (cI, 48, .inl d_cells))] H1 := join_ro hP hD [1] rfl hk1 hP1
    clear hPc hDc hFc hk1 hz1 hP1 hD1 ht hvm
    generalize H1 = H at hP hS ⊢
    refine lv_goto (tgt := 25) hx hb dX2_number_21 (by decide) ?_
    have hrun := hrun
    subst hrun
    rw [hQ]
    exact W.iret (v := (f_X5_at 48 d_cells ((x1 * 4) + x2))) hx hb hr (fun t ht hW => ⟨⟨(f_X5_at 48 d_cells ((x1 * 4) + x2)), (), rfl, rfl, by rw [ht]; exact hP, hD⟩, hS.F ht⟩) hS.2.2 dX2_number_25
-- SkyListeners$Rows.set
def f_X2_set (d_many : Int32) (d_cells : Nat → Int32) (x1 : Int32) (x2 : Int32) (x3 : Int32) : (Nat → Int32) := (if (f_X2_has d_many x1 x2) = 0 then (d_cells) else ((f_X5_put 48 d_cells ((x1 * 4) + x2) x3)))
set_option maxHeartbeats 4000000 in
set_option maxRecDepth 100000 in
theorem c_X2_set (l : Launch) (dC : Nat → ClassId) (dI : Nat → Nat → Nat) (cI cZ : ClassId) (sz : Nat) (p_cells p_this : Nat) (d_most : Int32) (d_many : Int32) (d_cells : Nat → Int32) (x1 : Int32) (x2 : Int32) (x3 : Int32) (out : (Nat → Int32)) (hrun : f_X2_set d_many d_cells x1 x2 x3 = out) : Met l yX2_set wsX2_set ({ frames := 1, cells := 0, slots := 0, locals := 22 } : Room) (va_Pc [.ref p_this, .int x1, .int x2, .int x3] (PC dC dI cI cZ sz ([(p_this, .inr (2, [.int d_most, .ref p_cells, .int d_many])), (p_cells, .inl (cI, 48, .inl d_cells))] : va_W))) (va_Qv (fun (_ : Unit) => True) (fun _ t => va_P (dC, dI) vwCl [(p_this, .inr (2, [.int d_most, .ref p_cells, .int d_many])), (p_cells, .inl (cI, 48, .inl out))] t.heap ∧ va_D (va_A ([(p_this, .inr (2, [.int d_most, .ref p_cells, .int d_many])), (p_cells, .inl (cI, 48, .inl d_cells))] : va_W) sz) [(p_this, .inr (2, [.int d_most, .ref p_cells, .int d_many])), (p_cells, .inl (cI, 48, .inl out))]) (va_A ([(p_this, .inr (2, [.int d_most, .ref p_cells, .int d_many])), (p_cells, .inl (cI, 48, .inl d_cells))] : va_W) sz)) 0 0 (va_A ([(p_this, .inr (2, [.int d_most, .ref p_cells, .int d_many])), (p_cells, .inl (cI, 48, .inl d_cells))] : va_W) sz) := by
  refine Met.ofW (cc := cX2_set) (maxL := 4) (ret := none) (by decide) rfl ?_
  intro p e s m args below meth c s₁ B hml hv
  obtain ⟨rfl, hsz, hP, hK, hD0, hN⟩ := hv
  have hx := B.exec
  have hb := B.bytes
  have hr := B.returns
  have hts := atoms_spec (ws := wsX2_set) B.pre
  have hown : s.vm.findClass RX2 = some m.cls := findClass_of_methodNamed B.named
  have hlocks := B.notSynchronized
  subst hsz
  have hD := hD0.self (sz := s.heap.size)
  generalize hAe : va_A ([(p_this, .inr (2, [.int d_most, .ref p_cells, .int d_many])), (p_cells, .inl (cI, 48, .inl d_cells))] : va_W) s.heap.size = A at hD ⊢
  have hA : ∀ q : Nat, s.heap.size ≤ q → A q := fun q h => by rw [← hAe]; exact Or.inr h
  have hS : va_S A s.heap s.heap [] := va_S.rf
  refine W_abs (fun Q hQ => ?_)
  have hl := lv_entry ([.ref p_this, .int x1, .int x2, .int x3]) (n := 4) (Nat.le_of_ble_eq_true rfl)
  rw [lg_entry_eq]
  generalize (lg_sl ([.ref p_this, .int x1, .int x2, .int x3]) ++ List.replicate (4 - (lg_sl ([.ref p_this, .int x1, .int x2, .int x3])).length) Slot.unset).toArray = ls at hl ⊢
  have hl : lv_has ls 4 [(0, .ref p_this), (1, .int x1), (2, .int x2), (3, .int x3)] := hl
  rw [f_X2_set] at hrun
  refine W_start (ws := [(p_this, .inr (2, [.int d_most, .ref p_cells, .int d_many])), (p_cells, .inl (cI, 48, .inl d_cells))]) hP hS (fun H locs hP hS => ?_)
  have iwX2 : ∀ w ∈ wsX20, w ∈ wsX2_set := by decide +kernel
  refine lv_aload_n hx hb dX2_set_0 rfl (lv_at hl 0 rfl) ?_
  refine lv_iload_n hx hb dX2_set_1 rfl (lv_at hl 1 rfl) ?_
  refine lv_iload_n hx hb dX2_set_2 rfl (lv_at hl 2 rfl) ?_
  have hPc : va_P (dC, dI) vwCl [(p_this, .inr (2, [.int d_most, .ref p_cells, .int d_many]))] H := hP.sub [0] rfl
  have hDc : va_D A [(p_this, .inr (2, [.int d_most, .ref p_cells, .int d_many]))] := hD.sub [0] (by decide) rfl
  have hFc := va_free (wc := [(p_this, .inr (2, [.int d_most, .ref p_cells, .int d_many]))]) hD hS hA [0] rfl
  refine va_calli (va_runV (As := [.int x1, .int x2]) (rest := []) ⟨hx, hb, hml, hown, hts⟩ (c_X2_has l dC dI cI cZ H.size p_cells p_this d_most d_many x1 x2 (f_X2_has d_many x1 x2) rfl) (cwV 2 hts gX2_set_X2_has rfl rfl rfl (by decide +kernel) ⟨Nat.le_of_ble_eq_true rfl, Nat.le_of_ble_eq_true rfl⟩) ⟨fun a U g mk q => ⟨q.1, PC.mv q.2⟩, va_recv hK hP (ci := 2) (q0 := 0) rfl rfl, fun U hU hW => ⟨rfl, PC.of hU hW hPc hK hDc hN⟩⟩ rfl rfl hl.1 rfl (lv_room (Nat.le_of_ble_eq_true rfl)) dX2_set_3 ⟨Nat.zero_le _, Nat.zero_le _⟩) hS (fun q _ h => hFc q h) hFc (fun r_3 u t H1 locs ht hvm hw hB hz1 hk1 hS => ?_)
  obtain ⟨hP1, hD1⟩ := hB
  try dsimp only at hw
  rw [hw]
  rw [ht] at hP1
  have hP : va_P (dC, dI) vwCl [(p_this, .inr (2, [.int d_most, .ref p_cells, .int d_many])), (p_cells, .inl (cI, 48, .inl d_cells))] H1 := join_ro hP hD [0] rfl hk1 hP1
  clear hPc hDc hFc hk1 hz1 hP1 hD1 ht hvm
  generalize H1 = H at hP hS ⊢
  refine lv_if_eq (tgt := 22) hx hb dX2_set_6 (by decide) (fun c_6 => ?_) (fun c_6 => ?_)
  · rw [if_pos c_6] at hrun
    have hrun := hrun
    subst hrun
    rw [hQ]
    exact W.vret hx hb hr (fun t ht hW => ⟨⟨(), rfl, trivial, by rw [ht]; exact hP, hD⟩, hS.F ht⟩) hS.2.2 dX2_set_22
  · rw [if_neg c_6] at hrun
    refine lv_aload_n hx hb dX2_set_9 rfl (lv_at hl 0 rfl) ?_
    refine va_get (D := (dC, dI)) (ci := 2) (v := .ref p_cells) (C := RX2) (T := TX2) (N := 3) hx hb hts iwX2 hown hK hP 0 rfl rfl 1 (by decide) (hts (.fieldLink RX2 11 "SkyListeners$Rows" "cells" "[I") (by decide +kernel)) (fun _ h9 => h9) rfl dX2_set_10 ?_
    refine lv_iload_n hx hb dX2_set_13 rfl (lv_at hl 1 rfl) ?_
    refine lv_iconst (v := 4) hx hb dX2_set_14 (by decide) ?_
    refine lv_imul hx hb dX2_set_15 ?_
    refine lv_iload_n hx hb dX2_set_16 rfl (lv_at hl 2 rfl) ?_
    refine lv_iadd hx hb dX2_set_17 ?_
    refine lv_iload_n hx hb dX2_set_18 rfl (lv_at hl 3 rfl) ?_
    have hPc : va_P (dC, dI) vwCl [(p_cells, .inl (cI, 48, .inl d_cells))] H := hP.sub [1] rfl
    have hDc : va_D A [(p_cells, .inl (cI, 48, .inl d_cells))] := hD.sub [1] (by decide) rfl
    have hFc := va_free (wc := [(p_cells, .inl (cI, 48, .inl d_cells))]) hD hS hA [1] rfl
    refine va_callv (va_runSN (As := [.ref p_cells, .int ((x1 * 4) + x2), .int x3]) (rest := []) ⟨hx, hb, hml, hown, hts⟩ (c_X5_put l dC dI cI cZ H.size p_cells 48 d_cells ((x1 * 4) + x2) x3 (by decide) (f_X5_put 48 d_cells ((x1 * 4) + x2) x3) rfl) ⟨va_cnB 3 hts gX2_set_X5_put_n44 rfl rfl rfl hN.2.2.2.2.1 (hts (.initialized RX5) (by decide +kernel)) (by decide +kernel) ⟨Nat.le_of_ble_eq_true rfl, Nat.le_of_ble_eq_true rfl⟩, hts (.static yX5_put) (by decide +kernel), trivial⟩ ⟨fun a U g mk q => ⟨q.1, PC.mv q.2⟩, fun U hU hW => ⟨rfl, PC.of hU hW hPc hK hDc hN⟩⟩ rfl rfl hl.1 rfl (lv_room (Nat.le_of_ble_eq_true rfl)) dX2_set_19 ⟨Nat.zero_le _, Nat.zero_le _⟩) hS (fun q _ h => hFc q h) hFc (fun u t H1 locs ht hvm hw hB hz1 hk1 hS => ?_)
    obtain ⟨hP1, hD1⟩ := hB
    rw [ht] at hP1
    obtain ⟨hP, hD⟩ := va_join (wr := [(p_this, .inr (2, [.int d_most, .ref p_cells, .int d_many]))]) (w1 := [(p_cells, .inl (cI, 48, .inl (f_X5_put 48 d_cells ((x1 * 4) + x2) x3)))]) hP hD [1] [0] rfl rfl (by decide) (by decide) hk1 hFc hP1 hD1
    have hP : va_P (dC, dI) vwCl [(p_this, .inr (2, [.int d_most, .ref p_cells, .int d_many])), (p_cells, .inl (cI, 48, .inl (f_X5_put 48 d_cells ((x1 * 4) + x2) x3)))] H1 := hP.sub [0, 1] rfl
    have hD : va_D A [(p_this, .inr (2, [.int d_most, .ref p_cells, .int d_many])), (p_cells, .inl (cI, 48, .inl (f_X5_put 48 d_cells ((x1 * 4) + x2) x3)))] := hD.sub [0, 1] (by decide) rfl
    clear hPc hDc hFc hk1 hz1 hP1 hD1 ht hvm
    generalize H1 = H at hP hS ⊢
    have hrun := hrun
    subst hrun
    rw [hQ]
    exact W.vret hx hb hr (fun t ht hW => ⟨⟨(), rfl, trivial, by rw [ht]; exact hP, hD⟩, hS.F ht⟩) hS.2.2 dX2_set_22
-- SkyListeners$Rows.add
def f_X2_add (d_most : Int32) (d_many : Int32) (d_cells : Nat → Int32) (x1 : Int32) (x2 : Int32) (x3 : Int32) (x4 : Int32) : Int32 × (Nat → Int32) := (if (f_X2_isFull d_most d_many) = 0 then ((d_many + 1, (f_X2_set (d_many + 1) (f_X2_set (d_many + 1) (f_X2_set (d_many + 1) (f_X2_set (d_many + 1) d_cells ((d_many + 1) - 1) 0 x1) ((d_many + 1) - 1) 1 x2) ((d_many + 1) - 1) 2 x3) ((d_many + 1) - 1) 3 x4))) else ((d_many, d_cells)))
set_option maxHeartbeats 4000000 in
set_option maxRecDepth 100000 in
theorem c_X2_add (l : Launch) (dC : Nat → ClassId) (dI : Nat → Nat → Nat) (cI cZ : ClassId) (sz : Nat) (p_cells p_this : Nat) (d_most : Int32) (d_many : Int32) (d_cells : Nat → Int32) (x1 : Int32) (x2 : Int32) (x3 : Int32) (x4 : Int32) (out : Int32 × (Nat → Int32)) (hrun : f_X2_add d_most d_many d_cells x1 x2 x3 x4 = out) : Met l yX2_add wsX2_add ({ frames := 2, cells := 0, slots := 0, locals := 45 } : Room) (va_Pc [.ref p_this, .int x1, .int x2, .int x3, .int x4] (PC dC dI cI cZ sz ([(p_this, .inr (2, [.int d_most, .ref p_cells, .int d_many])), (p_cells, .inl (cI, 48, .inl d_cells))] : va_W))) (va_Qv (fun (_ : Unit) => True) (fun _ t => va_P (dC, dI) vwCl [(p_this, .inr (2, [.int d_most, .ref p_cells, .int out.1])), (p_cells, .inl (cI, 48, .inl out.2))] t.heap ∧ va_D (va_A ([(p_this, .inr (2, [.int d_most, .ref p_cells, .int d_many])), (p_cells, .inl (cI, 48, .inl d_cells))] : va_W) sz) [(p_this, .inr (2, [.int d_most, .ref p_cells, .int out.1])), (p_cells, .inl (cI, 48, .inl out.2))]) (va_A ([(p_this, .inr (2, [.int d_most, .ref p_cells, .int d_many])), (p_cells, .inl (cI, 48, .inl d_cells))] : va_W) sz)) 0 0 (va_A ([(p_this, .inr (2, [.int d_most, .ref p_cells, .int d_many])), (p_cells, .inl (cI, 48, .inl d_cells))] : va_W) sz) := by
  refine Met.ofW (cc := cX2_add) (maxL := 5) (ret := none) (by decide) rfl ?_
  intro p e s m args below meth c s₁ B hml hv
  obtain ⟨rfl, hsz, hP, hK, hD0, hN⟩ := hv
  have hx := B.exec
  have hb := B.bytes
  have hr := B.returns
  have hts := atoms_spec (ws := wsX2_add) B.pre
  have hown : s.vm.findClass RX2 = some m.cls := findClass_of_methodNamed B.named
  have hlocks := B.notSynchronized
  subst hsz
  have hD := hD0.self (sz := s.heap.size)
  generalize hAe : va_A ([(p_this, .inr (2, [.int d_most, .ref p_cells, .int d_many])), (p_cells, .inl (cI, 48, .inl d_cells))] : va_W) s.heap.size = A at hD ⊢
  have hA : ∀ q : Nat, s.heap.size ≤ q → A q := fun q h => by rw [← hAe]; exact Or.inr h
  have hS : va_S A s.heap s.heap [] := va_S.rf
  refine W_abs (fun Q hQ => ?_)
  have hl := lv_entry ([.ref p_this, .int x1, .int x2, .int x3, .int x4]) (n := 5) (Nat.le_of_ble_eq_true rfl)
  rw [lg_entry_eq]
  generalize (lg_sl ([.ref p_this, .int x1, .int x2, .int x3, .int x4]) ++ List.replicate (5 - (lg_sl ([.ref p_this, .int x1, .int x2, .int x3, .int x4])).length) Slot.unset).toArray = ls at hl ⊢
  have hl : lv_has ls 5 [(0, .ref p_this), (1, .int x1), (2, .int x2), (3, .int x3), (4, .int x4)] := hl
  rw [f_X2_add] at hrun
  refine W_start (ws := [(p_this, .inr (2, [.int d_most, .ref p_cells, .int d_many])), (p_cells, .inl (cI, 48, .inl d_cells))]) hP hS (fun H locs hP hS => ?_)
  have iwX2 : ∀ w ∈ wsX20, w ∈ wsX2_add := by decide +kernel
  refine lv_aload_n hx hb dX2_add_0 rfl (lv_at hl 0 rfl) ?_
  have hPc : va_P (dC, dI) vwCl [(p_this, .inr (2, [.int d_most, .ref p_cells, .int d_many]))] H := hP.sub [0] rfl
  have hDc : va_D A [(p_this, .inr (2, [.int d_most, .ref p_cells, .int d_many]))] := hD.sub [0] (by decide) rfl
  have hFc := va_free (wc := [(p_this, .inr (2, [.int d_most, .ref p_cells, .int d_many]))]) hD hS hA [0] rfl
  refine va_calli (va_runV (As := []) (rest := []) ⟨hx, hb, hml, hown, hts⟩ (c_X2_isFull l dC dI cI cZ H.size p_cells p_this d_most d_many (f_X2_isFull d_most d_many) rfl) (cwV 0 hts gX2_add_X2_isFull rfl rfl rfl (by decide +kernel) ⟨Nat.le_of_ble_eq_true rfl, Nat.le_of_ble_eq_true rfl⟩) ⟨fun a U g mk q => ⟨q.1, PC.mv q.2⟩, va_recv hK hP (ci := 2) (q0 := 0) rfl rfl, fun U hU hW => ⟨rfl, PC.of hU hW hPc hK hDc hN⟩⟩ rfl rfl hl.1 rfl (lv_room (Nat.le_of_ble_eq_true rfl)) dX2_add_1 ⟨Nat.zero_le _, Nat.zero_le _⟩) hS (fun q _ h => hFc q h) hFc (fun r_1 u t H1 locs ht hvm hw hB hz1 hk1 hS => ?_)
  obtain ⟨hP1, hD1⟩ := hB
  try dsimp only at hw
  rw [hw]
  rw [ht] at hP1
  have hP : va_P (dC, dI) vwCl [(p_this, .inr (2, [.int d_most, .ref p_cells, .int d_many])), (p_cells, .inl (cI, 48, .inl d_cells))] H1 := join_ro hP hD [0] rfl hk1 hP1
  clear hPc hDc hFc hk1 hz1 hP1 hD1 ht hvm
  generalize H1 = H at hP hS ⊢
  refine lv_if_eq (tgt := 8) hx hb dX2_add_4 (by decide) (fun c_4 => ?_) (fun c_4 => ?_)
  · rw [if_pos c_4] at hrun
    refine lv_aload_n hx hb dX2_add_8 rfl (lv_at hl 0 rfl) ?_
    refine lv_dup hx hb dX2_add_9 rfl ?_
    refine va_get (D := (dC, dI)) (ci := 2) (v := .int d_many) (C := RX2) (T := TX2) (N := 3) hx hb hts iwX2 hown hK hP 0 rfl rfl 2 (by decide) (hts (.fieldLink RX2 15 "SkyListeners$Rows" "many" "I") (by decide +kernel)) (fun _ h9 => h9) rfl dX2_add_10 ?_
    refine lv_iconst (v := 1) hx hb dX2_add_13 (by decide) ?_
    refine lv_iadd hx hb dX2_add_14 ?_
    refine va_put (D := (dC, dI)) (ci := 2) (v := .int (d_many + 1)) (ty := .int) (C := RX2) (T := TX2) (N := 3) hx hb hts iwX2 tyX2 tyX2_ok nmX2 hown hK hP hD hS 0 rfl rfl 2 (by decide) (hts (.fieldLink RX2 15 "SkyListeners$Rows" "many" "I") (by decide +kernel)) (fun _ h9 => h9) rfl (by decide +kernel) rfl rfl (Nat.le_of_ble_eq_true rfl) dX2_add_15 (fun H locs hP hD hS => ?_)
    have hP : va_P (dC, dI) vwCl [(p_this, .inr (2, [.int d_most, .ref p_cells, .int (d_many + 1)])), (p_cells, .inl (cI, 48, .inl d_cells))] H := hP
    have hD : va_D A [(p_this, .inr (2, [.int d_most, .ref p_cells, .int (d_many + 1)])), (p_cells, .inl (cI, 48, .inl d_cells))] := hD
    refine lv_aload_n hx hb dX2_add_18 rfl (lv_at hl 0 rfl) ?_
    refine lv_aload_n hx hb dX2_add_19 rfl (lv_at hl 0 rfl) ?_
    refine va_get (D := (dC, dI)) (ci := 2) (v := .int (d_many + 1)) (C := RX2) (T := TX2) (N := 3) hx hb hts iwX2 hown hK hP 0 rfl rfl 2 (by decide) (hts (.fieldLink RX2 15 "SkyListeners$Rows" "many" "I") (by decide +kernel)) (fun _ h9 => h9) rfl dX2_add_20 ?_
    refine lv_iconst (v := 1) hx hb dX2_add_23 (by decide) ?_
    refine lv_isub hx hb dX2_add_24 ?_
    refine lv_iconst (v := 0) hx hb dX2_add_25 (by decide) ?_
    refine lv_iload_n hx hb dX2_add_26 rfl (lv_at hl 1 rfl) ?_
    have hPc : va_P (dC, dI) vwCl [(p_this, .inr (2, [.int d_most, .ref p_cells, .int (d_many + 1)])), (p_cells, .inl (cI, 48, .inl d_cells))] H := hP.sub [0, 1] rfl
    have hDc : va_D A [(p_this, .inr (2, [.int d_most, .ref p_cells, .int (d_many + 1)])), (p_cells, .inl (cI, 48, .inl d_cells))] := hD.sub [0, 1] (by decide) rfl
    have hFc := va_free (wc := [(p_this, .inr (2, [.int d_most, .ref p_cells, .int (d_many + 1)])), (p_cells, .inl (cI, 48, .inl d_cells))]) hD hS hA [0, 1] rfl
    refine va_callv (va_runV (As := [.int ((d_many + 1) - 1), .int 0, .int x1]) (rest := []) ⟨hx, hb, hml, hown, hts⟩ (c_X2_set l dC dI cI cZ H.size p_cells p_this d_most (d_many + 1) d_cells ((d_many + 1) - 1) 0 x1 (f_X2_set (d_many + 1) d_cells ((d_many + 1) - 1) 0 x1) rfl) (cwV 3 hts gX2_add_X2_set rfl rfl rfl (by decide +kernel) ⟨Nat.le_of_ble_eq_true rfl, Nat.le_of_ble_eq_true rfl⟩) ⟨fun a U g mk q => ⟨q.1, PC.mv q.2⟩, va_recv hK hP (ci := 2) (q0 := 0) rfl rfl, fun U hU hW => ⟨rfl, PC.of hU hW hPc hK hDc hN⟩⟩ rfl rfl hl.1 rfl (lv_room (Nat.le_of_ble_eq_true rfl)) dX2_add_27 ⟨Nat.zero_le _, Nat.zero_le _⟩) hS (fun q _ h => hFc q h) hFc (fun u t H1 locs ht hvm hw hB hz1 hk1 hS => ?_)
    obtain ⟨hP1, hD1⟩ := hB
    rw [ht] at hP1
    obtain ⟨hP, hD⟩ := va_join (wr := []) (w1 := [(p_this, .inr (2, [.int d_most, .ref p_cells, .int (d_many + 1)])), (p_cells, .inl (cI, 48, .inl (f_X2_set (d_many + 1) d_cells ((d_many + 1) - 1) 0 x1)))]) hP hD [0, 1] [] rfl rfl (by decide) (by decide) hk1 hFc hP1 hD1
    have hP : va_P (dC, dI) vwCl [(p_this, .inr (2, [.int d_most, .ref p_cells, .int (d_many + 1)])), (p_cells, .inl (cI, 48, .inl (f_X2_set (d_many + 1) d_cells ((d_many + 1) - 1) 0 x1)))] H1 := hP.sub [0, 1] rfl
    have hD : va_D A [(p_this, .inr (2, [.int d_most, .ref p_cells, .int (d_many + 1)])), (p_cells, .inl (cI, 48, .inl (f_X2_set (d_many + 1) d_cells ((d_many + 1) - 1) 0 x1)))] := hD.sub [0, 1] (by decide) rfl
    clear hPc hDc hFc hk1 hz1 hP1 hD1 ht hvm
    generalize H1 = H at hP hS ⊢
    refine lv_aload_n hx hb dX2_add_30 rfl (lv_at hl 0 rfl) ?_
    refine lv_aload_n hx hb dX2_add_31 rfl (lv_at hl 0 rfl) ?_
    refine va_get (D := (dC, dI)) (ci := 2) (v := .int (d_many + 1)) (C := RX2) (T := TX2) (N := 3) hx hb hts iwX2 hown hK hP 0 rfl rfl 2 (by decide) (hts (.fieldLink RX2 15 "SkyListeners$Rows" "many" "I") (by decide +kernel)) (fun _ h9 => h9) rfl dX2_add_32 ?_
    refine lv_iconst (v := 1) hx hb dX2_add_35 (by decide) ?_
    refine lv_isub hx hb dX2_add_36 ?_
    refine lv_iconst (v := 1) hx hb dX2_add_37 (by decide) ?_
    refine lv_iload_n hx hb dX2_add_38 rfl (lv_at hl 2 rfl) ?_
    have hPc : va_P (dC, dI) vwCl [(p_this, .inr (2, [.int d_most, .ref p_cells, .int (d_many + 1)])), (p_cells, .inl (cI, 48, .inl (f_X2_set (d_many + 1) d_cells ((d_many + 1) - 1) 0 x1)))] H := hP.sub [0, 1] rfl
    have hDc : va_D A [(p_this, .inr (2, [.int d_most, .ref p_cells, .int (d_many + 1)])), (p_cells, .inl (cI, 48, .inl (f_X2_set (d_many + 1) d_cells ((d_many + 1) - 1) 0 x1)))] := hD.sub [0, 1] (by decide) rfl
    have hFc := va_free (wc := [(p_this, .inr (2, [.int d_most, .ref p_cells, .int (d_many + 1)])), (p_cells, .inl (cI, 48, .inl (f_X2_set (d_many + 1) d_cells ((d_many + 1) - 1) 0 x1)))]) hD hS hA [0, 1] rfl
    refine va_callv (va_runV (As := [.int ((d_many + 1) - 1), .int 1, .int x2]) (rest := []) ⟨hx, hb, hml, hown, hts⟩ (c_X2_set l dC dI cI cZ H.size p_cells p_this d_most (d_many + 1) (f_X2_set (d_many + 1) d_cells ((d_many + 1) - 1) 0 x1) ((d_many + 1) - 1) 1 x2 (f_X2_set (d_many + 1) (f_X2_set (d_many + 1) d_cells ((d_many + 1) - 1) 0 x1) ((d_many + 1) - 1) 1 x2) rfl) (cwV 3 hts gX2_add_X2_set rfl rfl rfl (by decide +kernel) ⟨Nat.le_of_ble_eq_true rfl, Nat.le_of_ble_eq_true rfl⟩) ⟨fun a U g mk q => ⟨q.1, PC.mv q.2⟩, va_recv hK hP (ci := 2) (q0 := 0) rfl rfl, fun U hU hW => ⟨rfl, PC.of hU hW hPc hK hDc hN⟩⟩ rfl rfl hl.1 rfl (lv_room (Nat.le_of_ble_eq_true rfl)) dX2_add_39 ⟨Nat.zero_le _, Nat.zero_le _⟩) hS (fun q _ h => hFc q h) hFc (fun u t H1 locs ht hvm hw hB hz1 hk1 hS => ?_)
    obtain ⟨hP1, hD1⟩ := hB
    rw [ht] at hP1
    obtain ⟨hP, hD⟩ := va_join (wr := []) (w1 := [(p_this, .inr (2, [.int d_most, .ref p_cells, .int (d_many + 1)])), (p_cells, .inl (cI, 48, .inl (f_X2_set (d_many + 1) (f_X2_set (d_many + 1) d_cells ((d_many + 1) - 1) 0 x1) ((d_many + 1) - 1) 1 x2)))]) hP hD [0, 1] [] rfl rfl (by decide) (by decide) hk1 hFc hP1 hD1
    have hP : va_P (dC, dI) vwCl [(p_this, .inr (2, [.int d_most, .ref p_cells, .int (d_many + 1)])), (p_cells, .inl (cI, 48, .inl (f_X2_set (d_many + 1) (f_X2_set (d_many + 1) d_cells ((d_many + 1) - 1) 0 x1) ((d_many + 1) - 1) 1 x2)))] H1 := hP.sub [0, 1] rfl
    have hD : va_D A [(p_this, .inr (2, [.int d_most, .ref p_cells, .int (d_many + 1)])), (p_cells, .inl (cI, 48, .inl (f_X2_set (d_many + 1) (f_X2_set (d_many + 1) d_cells ((d_many + 1) - 1) 0 x1) ((d_many + 1) - 1) 1 x2)))] := hD.sub [0, 1] (by decide) rfl
    clear hPc hDc hFc hk1 hz1 hP1 hD1 ht hvm
    generalize H1 = H at hP hS ⊢
    refine lv_aload_n hx hb dX2_add_42 rfl (lv_at hl 0 rfl) ?_
    refine lv_aload_n hx hb dX2_add_43 rfl (lv_at hl 0 rfl) ?_
    refine va_get (D := (dC, dI)) (ci := 2) (v := .int (d_many + 1)) (C := RX2) (T := TX2) (N := 3) hx hb hts iwX2 hown hK hP 0 rfl rfl 2 (by decide) (hts (.fieldLink RX2 15 "SkyListeners$Rows" "many" "I") (by decide +kernel)) (fun _ h9 => h9) rfl dX2_add_44 ?_
    refine lv_iconst (v := 1) hx hb dX2_add_47 (by decide) ?_
    refine lv_isub hx hb dX2_add_48 ?_
    refine lv_iconst (v := 2) hx hb dX2_add_49 (by decide) ?_
    refine lv_iload_n hx hb dX2_add_50 rfl (lv_at hl 3 rfl) ?_
    have hPc : va_P (dC, dI) vwCl [(p_this, .inr (2, [.int d_most, .ref p_cells, .int (d_many + 1)])), (p_cells, .inl (cI, 48, .inl (f_X2_set (d_many + 1) (f_X2_set (d_many + 1) d_cells ((d_many + 1) - 1) 0 x1) ((d_many + 1) - 1) 1 x2)))] H := hP.sub [0, 1] rfl
    have hDc : va_D A [(p_this, .inr (2, [.int d_most, .ref p_cells, .int (d_many + 1)])), (p_cells, .inl (cI, 48, .inl (f_X2_set (d_many + 1) (f_X2_set (d_many + 1) d_cells ((d_many + 1) - 1) 0 x1) ((d_many + 1) - 1) 1 x2)))] := hD.sub [0, 1] (by decide) rfl
    have hFc := va_free (wc := [(p_this, .inr (2, [.int d_most, .ref p_cells, .int (d_many + 1)])), (p_cells, .inl (cI, 48, .inl (f_X2_set (d_many + 1) (f_X2_set (d_many + 1) d_cells ((d_many + 1) - 1) 0 x1) ((d_many + 1) - 1) 1 x2)))]) hD hS hA [0, 1] rfl
    refine va_callv (va_runV (As := [.int ((d_many + 1) - 1), .int 2, .int x3]) (rest := []) ⟨hx, hb, hml, hown, hts⟩ (c_X2_set l dC dI cI cZ H.size p_cells p_this d_most (d_many + 1) (f_X2_set (d_many + 1) (f_X2_set (d_many + 1) d_cells ((d_many + 1) - 1) 0 x1) ((d_many + 1) - 1) 1 x2) ((d_many + 1) - 1) 2 x3 (f_X2_set (d_many + 1) (f_X2_set (d_many + 1) (f_X2_set (d_many + 1) d_cells ((d_many + 1) - 1) 0 x1) ((d_many + 1) - 1) 1 x2) ((d_many + 1) - 1) 2 x3) rfl) (cwV 3 hts gX2_add_X2_set rfl rfl rfl (by decide +kernel) ⟨Nat.le_of_ble_eq_true rfl, Nat.le_of_ble_eq_true rfl⟩) ⟨fun a U g mk q => ⟨q.1, PC.mv q.2⟩, va_recv hK hP (ci := 2) (q0 := 0) rfl rfl, fun U hU hW => ⟨rfl, PC.of hU hW hPc hK hDc hN⟩⟩ rfl rfl hl.1 rfl (lv_room (Nat.le_of_ble_eq_true rfl)) dX2_add_51 ⟨Nat.zero_le _, Nat.zero_le _⟩) hS (fun q _ h => hFc q h) hFc (fun u t H1 locs ht hvm hw hB hz1 hk1 hS => ?_)
    obtain ⟨hP1, hD1⟩ := hB
    rw [ht] at hP1
    obtain ⟨hP, hD⟩ := va_join (wr := []) (w1 := [(p_this, .inr (2, [.int d_most, .ref p_cells, .int (d_many + 1)])), (p_cells, .inl (cI, 48, .inl (f_X2_set (d_many + 1) (f_X2_set (d_many + 1) (f_X2_set (d_many + 1) d_cells ((d_many + 1) - 1) 0 x1) ((d_many + 1) - 1) 1 x2) ((d_many + 1) - 1) 2 x3)))]) hP hD [0, 1] [] rfl rfl (by decide) (by decide) hk1 hFc hP1 hD1
    have hP : va_P (dC, dI) vwCl [(p_this, .inr (2, [.int d_most, .ref p_cells, .int (d_many + 1)])), (p_cells, .inl (cI, 48, .inl (f_X2_set (d_many + 1) (f_X2_set (d_many + 1) (f_X2_set (d_many + 1) d_cells ((d_many + 1) - 1) 0 x1) ((d_many + 1) - 1) 1 x2) ((d_many + 1) - 1) 2 x3)))] H1 := hP.sub [0, 1] rfl
    have hD : va_D A [(p_this, .inr (2, [.int d_most, .ref p_cells, .int (d_many + 1)])), (p_cells, .inl (cI, 48, .inl (f_X2_set (d_many + 1) (f_X2_set (d_many + 1) (f_X2_set (d_many + 1) d_cells ((d_many + 1) - 1) 0 x1) ((d_many + 1) - 1) 1 x2) ((d_many + 1) - 1) 2 x3)))] := hD.sub [0, 1] (by decide) rfl
    clear hPc hDc hFc hk1 hz1 hP1 hD1 ht hvm
    generalize H1 = H at hP hS ⊢
    refine lv_aload_n hx hb dX2_add_54 rfl (lv_at hl 0 rfl) ?_
    refine lv_aload_n hx hb dX2_add_55 rfl (lv_at hl 0 rfl) ?_
    refine va_get (D := (dC, dI)) (ci := 2) (v := .int (d_many + 1)) (C := RX2) (T := TX2) (N := 3) hx hb hts iwX2 hown hK hP 0 rfl rfl 2 (by decide) (hts (.fieldLink RX2 15 "SkyListeners$Rows" "many" "I") (by decide +kernel)) (fun _ h9 => h9) rfl dX2_add_56 ?_
    refine lv_iconst (v := 1) hx hb dX2_add_59 (by decide) ?_
    refine lv_isub hx hb dX2_add_60 ?_
    refine lv_iconst (v := 3) hx hb dX2_add_61 (by decide) ?_
    refine lv_iload hx hb dX2_add_62 (lv_at hl 4 rfl) ?_
    have hPc : va_P (dC, dI) vwCl [(p_this, .inr (2, [.int d_most, .ref p_cells, .int (d_many + 1)])), (p_cells, .inl (cI, 48, .inl (f_X2_set (d_many + 1) (f_X2_set (d_many + 1) (f_X2_set (d_many + 1) d_cells ((d_many + 1) - 1) 0 x1) ((d_many + 1) - 1) 1 x2) ((d_many + 1) - 1) 2 x3)))] H := hP.sub [0, 1] rfl
    have hDc : va_D A [(p_this, .inr (2, [.int d_most, .ref p_cells, .int (d_many + 1)])), (p_cells, .inl (cI, 48, .inl (f_X2_set (d_many + 1) (f_X2_set (d_many + 1) (f_X2_set (d_many + 1) d_cells ((d_many + 1) - 1) 0 x1) ((d_many + 1) - 1) 1 x2) ((d_many + 1) - 1) 2 x3)))] := hD.sub [0, 1] (by decide) rfl
    have hFc := va_free (wc := [(p_this, .inr (2, [.int d_most, .ref p_cells, .int (d_many + 1)])), (p_cells, .inl (cI, 48, .inl (f_X2_set (d_many + 1) (f_X2_set (d_many + 1) (f_X2_set (d_many + 1) d_cells ((d_many + 1) - 1) 0 x1) ((d_many + 1) - 1) 1 x2) ((d_many + 1) - 1) 2 x3)))]) hD hS hA [0, 1] rfl
    refine va_callv (va_runV (As := [.int ((d_many + 1) - 1), .int 3, .int x4]) (rest := []) ⟨hx, hb, hml, hown, hts⟩ (c_X2_set l dC dI cI cZ H.size p_cells p_this d_most (d_many + 1) (f_X2_set (d_many + 1) (f_X2_set (d_many + 1) (f_X2_set (d_many + 1) d_cells ((d_many + 1) - 1) 0 x1) ((d_many + 1) - 1) 1 x2) ((d_many + 1) - 1) 2 x3) ((d_many + 1) - 1) 3 x4 (f_X2_set (d_many + 1) (f_X2_set (d_many + 1) (f_X2_set (d_many + 1) (f_X2_set (d_many + 1) d_cells ((d_many + 1) - 1) 0 x1) ((d_many + 1) - 1) 1 x2) ((d_many + 1) - 1) 2 x3) ((d_many + 1) - 1) 3 x4) rfl) (cwV 3 hts gX2_add_X2_set rfl rfl rfl (by decide +kernel) ⟨Nat.le_of_ble_eq_true rfl, Nat.le_of_ble_eq_true rfl⟩) ⟨fun a U g mk q => ⟨q.1, PC.mv q.2⟩, va_recv hK hP (ci := 2) (q0 := 0) rfl rfl, fun U hU hW => ⟨rfl, PC.of hU hW hPc hK hDc hN⟩⟩ rfl rfl hl.1 rfl (lv_room (Nat.le_of_ble_eq_true rfl)) dX2_add_64 ⟨Nat.zero_le _, Nat.zero_le _⟩) hS (fun q _ h => hFc q h) hFc (fun u t H1 locs ht hvm hw hB hz1 hk1 hS => ?_)
    obtain ⟨hP1, hD1⟩ := hB
    rw [ht] at hP1
    obtain ⟨hP, hD⟩ := va_join (wr := []) (w1 := [(p_this, .inr (2, [.int d_most, .ref p_cells, .int (d_many + 1)])), (p_cells, .inl (cI, 48, .inl (f_X2_set (d_many + 1) (f_X2_set (d_many + 1) (f_X2_set (d_many + 1) (f_X2_set (d_many + 1) d_cells ((d_many + 1) - 1) 0 x1) ((d_many + 1) - 1) 1 x2) ((d_many + 1) - 1) 2 x3) ((d_many + 1) - 1) 3 x4)))]) hP hD [0, 1] [] rfl rfl (by decide) (by decide) hk1 hFc hP1 hD1
    have hP : va_P (dC, dI) vwCl [(p_this, .inr (2, [.int d_most, .ref p_cells, .int (d_many + 1)])), (p_cells, .inl (cI, 48, .inl (f_X2_set (d_many + 1) (f_X2_set (d_many + 1) (f_X2_set (d_many + 1) (f_X2_set (d_many + 1) d_cells ((d_many + 1) - 1) 0 x1) ((d_many + 1) - 1) 1 x2) ((d_many + 1) - 1) 2 x3) ((d_many + 1) - 1) 3 x4)))] H1 := hP.sub [0, 1] rfl
    have hD : va_D A [(p_this, .inr (2, [.int d_most, .ref p_cells, .int (d_many + 1)])), (p_cells, .inl (cI, 48, .inl (f_X2_set (d_many + 1) (f_X2_set (d_many + 1) (f_X2_set (d_many + 1) (f_X2_set (d_many + 1) d_cells ((d_many + 1) - 1) 0 x1) ((d_many + 1) - 1) 1 x2) ((d_many + 1) - 1) 2 x3) ((d_many + 1) - 1) 3 x4)))] := hD.sub [0, 1] (by decide) rfl
    clear hPc hDc hFc hk1 hz1 hP1 hD1 ht hvm
    generalize H1 = H at hP hS ⊢
    have hrun := hrun
    subst hrun
    rw [hQ]
    exact W.vret hx hb hr (fun t ht hW => ⟨⟨(), rfl, trivial, by rw [ht]; exact hP, hD⟩, hS.F ht⟩) hS.2.2 dX2_add_67
  · rw [if_neg c_4] at hrun
    have hrun := hrun
    subst hrun
    rw [hQ]
    exact W.vret hx hb hr (fun t ht hW => ⟨⟨(), rfl, trivial, by rw [ht]; exact hP, hD⟩, hS.F ht⟩) hS.2.2 dX2_add_7
-- SkyListeners$Rows.dropLast
def f_X2_dropLast (d_many : Int32) : Int32 := ((if (d_many - 1) < 0 then 0 else (d_many - 1)))
set_option maxHeartbeats 4000000 in
set_option maxRecDepth 100000 in
theorem c_X2_dropLast (l : Launch) (dC : Nat → ClassId) (dI : Nat → Nat → Nat) (cI cZ : ClassId) (sz : Nat) (p_cells p_this : Nat) (d_most : Int32) (d_many : Int32) (out : Int32) (hrun : f_X2_dropLast d_many = out) : Met l yX2_dropLast wsX2_dropLast ({ frames := 1, cells := 0, slots := 0, locals := 21 } : Room) (va_Pc [.ref p_this] (PC dC dI cI cZ sz ([(p_this, .inr (2, [.int d_most, .ref p_cells, .int d_many]))] : va_W))) (va_Qv (fun (_ : Unit) => True) (fun _ t => va_P (dC, dI) vwCl [(p_this, .inr (2, [.int d_most, .ref p_cells, .int out]))] t.heap ∧ va_D (va_A ([(p_this, .inr (2, [.int d_most, .ref p_cells, .int d_many]))] : va_W) sz) [(p_this, .inr (2, [.int d_most, .ref p_cells, .int out]))]) (va_A ([(p_this, .inr (2, [.int d_most, .ref p_cells, .int d_many]))] : va_W) sz)) 0 0 (va_A ([(p_this, .inr (2, [.int d_most, .ref p_cells, .int d_many]))] : va_W) sz) := by
  refine Met.ofW (cc := cX2_dropLast) (maxL := 1) (ret := none) (by decide) rfl ?_
  intro p e s m args below meth c s₁ B hml hv
  obtain ⟨rfl, hsz, hP, hK, hD0, hN⟩ := hv
  have hx := B.exec
  have hb := B.bytes
  have hr := B.returns
  have hts := atoms_spec (ws := wsX2_dropLast) B.pre
  have hown : s.vm.findClass RX2 = some m.cls := findClass_of_methodNamed B.named
  have hlocks := B.notSynchronized
  subst hsz
  have hD := hD0.self (sz := s.heap.size)
  generalize hAe : va_A ([(p_this, .inr (2, [.int d_most, .ref p_cells, .int d_many]))] : va_W) s.heap.size = A at hD ⊢
  have hA : ∀ q : Nat, s.heap.size ≤ q → A q := fun q h => by rw [← hAe]; exact Or.inr h
  have hS : va_S A s.heap s.heap [] := va_S.rf
  refine W_abs (fun Q hQ => ?_)
  have hl := lv_entry ([.ref p_this]) (n := 1) (Nat.le_of_ble_eq_true rfl)
  rw [lg_entry_eq]
  generalize (lg_sl ([.ref p_this]) ++ List.replicate (1 - (lg_sl ([.ref p_this])).length) Slot.unset).toArray = ls at hl ⊢
  have hl : lv_has ls 1 [(0, .ref p_this)] := hl
  rw [f_X2_dropLast] at hrun
  refine W_start (ws := [(p_this, .inr (2, [.int d_most, .ref p_cells, .int d_many]))]) hP hS (fun H locs hP hS => ?_)
  have iwX2 : ∀ w ∈ wsX20, w ∈ wsX2_dropLast := by decide +kernel
  refine lv_aload_n hx hb dX2_dropLast_0 rfl (lv_at hl 0 rfl) ?_
  refine lv_aload_n hx hb dX2_dropLast_1 rfl (lv_at hl 0 rfl) ?_
  refine va_get (D := (dC, dI)) (ci := 2) (v := .int d_many) (C := RX2) (T := TX2) (N := 3) hx hb hts iwX2 hown hK hP 0 rfl rfl 2 (by decide) (hts (.fieldLink RX2 15 "SkyListeners$Rows" "many" "I") (by decide +kernel)) (fun _ h9 => h9) rfl dX2_dropLast_2 ?_
  refine lv_iconst (v := 1) hx hb dX2_dropLast_5 (by decide) ?_
  refine lv_isub hx hb dX2_dropLast_6 ?_
  refine lv_iconst (v := 0) hx hb dX2_dropLast_7 (by decide) ?_
  refine va_mmax hx hb (hml.trans hl.1.symm) hown (hts (.methodLink RX2 48 Lib.Math.max.name) (by decide +kernel)) (hts (.static Lib.Math.max.name) (by decide +kernel)) (hts (.initialized "java/lang/Math") (by decide +kernel)) (hts (.code Lib.Math.max.name Lib.Math.max.code 2 (some .int)) (by decide +kernel)) (Nat.le_of_ble_eq_true rfl) (Nat.le_of_ble_eq_true rfl) (Nat.zero_le _) (Nat.zero_le _) dX2_dropLast_8 ?_
  refine va_put (D := (dC, dI)) (ci := 2) (v := .int (if (d_many - 1) < 0 then 0 else (d_many - 1))) (ty := .int) (C := RX2) (T := TX2) (N := 3) hx hb hts iwX2 tyX2 tyX2_ok nmX2 hown hK hP hD hS 0 rfl rfl 2 (by decide) (hts (.fieldLink RX2 15 "SkyListeners$Rows" "many" "I") (by decide +kernel)) (fun _ h9 => h9) rfl (by decide +kernel) rfl rfl (Nat.le_of_ble_eq_true rfl) dX2_dropLast_11 (fun H locs hP hD hS => ?_)
  have hP : va_P (dC, dI) vwCl [(p_this, .inr (2, [.int d_most, .ref p_cells, .int (if (d_many - 1) < 0 then 0 else (d_many - 1))]))] H := hP
  have hD : va_D A [(p_this, .inr (2, [.int d_most, .ref p_cells, .int (if (d_many - 1) < 0 then 0 else (d_many - 1))]))] := hD
  have hrun := hrun
  subst hrun
  rw [hQ]
  exact W.vret hx hb hr (fun t ht hW => ⟨⟨(), rfl, trivial, by rw [ht]; exact hP, hD⟩, hS.F ht⟩) hS.2.2 dX2_dropLast_14
-- SkyListeners$Rows.dropFirst
def f_X2_dropFirst_X35 (d_many : Int32) (d_cells : Nat → Int32) : Option (Int32 × (Nat → Int32)) := (some ((f_X2_dropLast d_many), d_cells))
def f_X2_dropFirst_L2 (K35 : (Nat → Int32) → Option (Int32 × (Nat → Int32))) (d_many : Int32) : Nat → Int32 → (Nat → Int32) → Option (Int32 × (Nat → Int32))
  | 0, _, _ => none
  | n9 + 1, x1, d_cells => (if 48 ≤ x1 then (K35 d_cells) else (f_X2_dropFirst_L2 K35 d_many n9 (x1 + 1) (f_X5_put 48 d_cells (x1 - 4) (f_X5_at 48 d_cells x1))))
def f_X2_dropFirst (d_many : Int32) (d_cells : Nat → Int32) : Option (Int32 × (Nat → Int32)) := (f_X2_dropFirst_L2 (f_X2_dropFirst_X35 d_many) d_many FU 4 d_cells)
set_option maxHeartbeats 4000000 in
set_option maxRecDepth 100000 in
theorem c_X2_dropFirst (l : Launch) (dC : Nat → ClassId) (dI : Nat → Nat → Nat) (cI cZ : ClassId) (sz : Nat) (p_cells p_this : Nat) (d_most : Int32) (d_many : Int32) (d_cells : Nat → Int32) (out : Int32 × (Nat → Int32)) (hrun : f_X2_dropFirst d_many d_cells = some out) : Met l yX2_dropFirst wsX2_dropFirst ({ frames := 2, cells := 0, slots := 0, locals := 41 } : Room) (va_Pc [.ref p_this] (PC dC dI cI cZ sz ([(p_this, .inr (2, [.int d_most, .ref p_cells, .int d_many])), (p_cells, .inl (cI, 48, .inl d_cells))] : va_W))) (va_Qv (fun (_ : Unit) => True) (fun _ t => va_P (dC, dI) vwCl [(p_this, .inr (2, [.int d_most, .ref p_cells, .int out.1])), (p_cells, .inl (cI, 48, .inl out.2))] t.heap ∧ va_D (va_A ([(p_this, .inr (2, [.int d_most, .ref p_cells, .int d_many])), (p_cells, .inl (cI, 48, .inl d_cells))] : va_W) sz) [(p_this, .inr (2, [.int d_most, .ref p_cells, .int out.1])), (p_cells, .inl (cI, 48, .inl out.2))]) (va_A ([(p_this, .inr (2, [.int d_most, .ref p_cells, .int d_many])), (p_cells, .inl (cI, 48, .inl d_cells))] : va_W) sz)) 0 0 (va_A ([(p_this, .inr (2, [.int d_most, .ref p_cells, .int d_many])), (p_cells, .inl (cI, 48, .inl d_cells))] : va_W) sz) := by
  refine Met.ofW (cc := cX2_dropFirst) (maxL := 2) (ret := none) (by decide) rfl ?_
  intro p e s m args below meth c s₁ B hml hv
  obtain ⟨rfl, hsz, hP, hK, hD0, hN⟩ := hv
  have hx := B.exec
  have hb := B.bytes
  have hr := B.returns
  have hts := atoms_spec (ws := wsX2_dropFirst) B.pre
  have hown : s.vm.findClass RX2 = some m.cls := findClass_of_methodNamed B.named
  have hlocks := B.notSynchronized
  subst hsz
  have hD := hD0.self (sz := s.heap.size)
  generalize hAe : va_A ([(p_this, .inr (2, [.int d_most, .ref p_cells, .int d_many])), (p_cells, .inl (cI, 48, .inl d_cells))] : va_W) s.heap.size = A at hD ⊢
  have hA : ∀ q : Nat, s.heap.size ≤ q → A q := fun q h => by rw [← hAe]; exact Or.inr h
  have hS : va_S A s.heap s.heap [] := va_S.rf
  refine W_abs (fun Q hQ => ?_)
  have hl := lv_entry ([.ref p_this]) (n := 2) (Nat.le_of_ble_eq_true rfl)
  rw [lg_entry_eq]
  generalize (lg_sl ([.ref p_this]) ++ List.replicate (2 - (lg_sl ([.ref p_this])).length) Slot.unset).toArray = ls at hl ⊢
  have hl : lv_has ls 2 [(0, .ref p_this)] := hl
  rw [f_X2_dropFirst] at hrun
  refine W_start (ws := [(p_this, .inr (2, [.int d_most, .ref p_cells, .int d_many])), (p_cells, .inl (cI, 48, .inl d_cells))]) hP hS (fun H locs hP hS => ?_)
  have iwX2 : ∀ w ∈ wsX20, w ∈ wsX2_dropFirst := by decide +kernel
  refine lv_iconst (v := 4) hx hb dX2_dropFirst_0 (by decide) ?_
  refine lv_istore_n (lv' := [(1, .int 4), (0, .ref p_this)]) hx hb dX2_dropFirst_1 rfl hl (by decide) rfl (fun ls hl => ?_)
  have X35 : ∀ (d_cells_35 : Nat → Int32) (H : Heap) (locs : List Loc), va_P (dC, dI) vwCl [(p_this, .inr (2, [.int d_most, .ref p_cells, .int d_many])), (p_cells, .inl (cI, 48, .inl d_cells_35))] H → va_D A [(p_this, .inr (2, [.int d_most, .ref p_cells, .int d_many])), (p_cells, .inl (cI, 48, .inl d_cells_35))] → va_S A s.heap H locs → ∀ ls : Array Slot, lv_has ls 2 [(0, .ref p_this)] → f_X2_dropFirst_X35 d_many d_cells_35 = some out → W p l e ({ frames := 2, cells := 0, slots := 0, locals := 41 } : Room) s m ([.ref p_this] : List Value).toArray below meth c H locs 0 0 Q (F0 m 35 ls []) := by
    intro d_cells_35 H locs hP hD hS ls hl hrun
    rw [f_X2_dropFirst_X35] at hrun
    refine lv_aload_n hx hb dX2_dropFirst_35 rfl (lv_at hl 0 rfl) ?_
    have hPc : va_P (dC, dI) vwCl [(p_this, .inr (2, [.int d_most, .ref p_cells, .int d_many]))] H := hP.sub [0] rfl
    have hDc : va_D A [(p_this, .inr (2, [.int d_most, .ref p_cells, .int d_many]))] := hD.sub [0] (by decide) rfl
    have hFc := va_free (wc := [(p_this, .inr (2, [.int d_most, .ref p_cells, .int d_many]))]) hD hS hA [0] rfl
    refine va_callv (va_runV (As := []) (rest := []) ⟨hx, hb, hml, hown, hts⟩ (c_X2_dropLast l dC dI cI cZ H.size p_cells p_this d_most d_many (f_X2_dropLast d_many) rfl) (cwV 0 hts gX2_dropFirst_X2_dropLast rfl rfl rfl (by decide +kernel) ⟨Nat.le_of_ble_eq_true rfl, Nat.le_of_ble_eq_true rfl⟩) ⟨fun a U g mk q => ⟨q.1, PC.mv q.2⟩, va_recv hK hP (ci := 2) (q0 := 0) rfl rfl, fun U hU hW => ⟨rfl, PC.of hU hW hPc hK hDc hN⟩⟩ rfl rfl hl.1 rfl (lv_room (Nat.le_of_ble_eq_true rfl)) dX2_dropFirst_36 ⟨Nat.zero_le _, Nat.zero_le _⟩) hS (fun q _ h => hFc q h) hFc (fun u t H1 locs ht hvm hw hB hz1 hk1 hS => ?_)
    obtain ⟨hP1, hD1⟩ := hB
    rw [ht] at hP1
    obtain ⟨hP, hD⟩ := va_join (wr := [(p_cells, .inl (cI, 48, .inl d_cells_35))]) (w1 := [(p_this, .inr (2, [.int d_most, .ref p_cells, .int (f_X2_dropLast d_many)]))]) hP hD [0] [1] rfl rfl (by decide) (by decide) hk1 hFc hP1 hD1
    have hP : va_P (dC, dI) vwCl [(p_this, .inr (2, [.int d_most, .ref p_cells, .int (f_X2_dropLast d_many)])), (p_cells, .inl (cI, 48, .inl d_cells_35))] H1 := hP.sub [1, 0] rfl
    have hD : va_D A [(p_this, .inr (2, [.int d_most, .ref p_cells, .int (f_X2_dropLast d_many)])), (p_cells, .inl (cI, 48, .inl d_cells_35))] := hD.sub [1, 0] (by decide) rfl
    clear hPc hDc hFc hk1 hz1 hP1 hD1 ht hvm
    generalize H1 = H at hP hS ⊢
    have hrun := Option.some.inj hrun
    subst hrun
    rw [hQ]
    exact W.vret hx hb hr (fun t ht hW => ⟨⟨(), rfl, trivial, by rw [ht]; exact hP, hD⟩, hS.F ht⟩) hS.2.2 dX2_dropFirst_39
  have L2 : ∀ (n9_2 : Nat) (x1_2 : Int32) (d_cells_2 : Nat → Int32) (H : Heap) (locs : List Loc), va_P (dC, dI) vwCl [(p_this, .inr (2, [.int d_most, .ref p_cells, .int d_many])), (p_cells, .inl (cI, 48, .inl d_cells_2))] H → va_D A [(p_this, .inr (2, [.int d_most, .ref p_cells, .int d_many])), (p_cells, .inl (cI, 48, .inl d_cells_2))] → va_S A s.heap H locs → ∀ ls : Array Slot, lv_has ls 2 [(0, .ref p_this), (1, .int x1_2)] → f_X2_dropFirst_L2 (f_X2_dropFirst_X35 d_many) d_many n9_2 x1_2 d_cells_2 = some out → W p l e ({ frames := 2, cells := 0, slots := 0, locals := 41 } : Room) s m ([.ref p_this] : List Value).toArray below meth c H locs 0 0 Q (F0 m 2 ls []) := by
    intro n9_2
    induction n9_2 with
    | zero =>
      intro x1_2 d_cells_2 H locs hP hD hS ls hl hrun
      rw [f_X2_dropFirst_L2] at hrun
      cases hrun
    | succ n9_2 ih2 =>
      intro x1_2 d_cells_2 H locs hP hD hS ls hl hrun
      rw [f_X2_dropFirst_L2] at hrun
      refine lv_iload_n hx hb dX2_dropFirst_2 rfl (lv_at hl 1 rfl) ?_
      refine lv_aload_n hx hb dX2_dropFirst_3 rfl (lv_at hl 0 rfl) ?_
      refine va_get (D := (dC, dI)) (ci := 2) (v := .ref p_cells) (C := RX2) (T := TX2) (N := 3) hx hb hts iwX2 hown hK hP 0 rfl rfl 1 (by decide) (hts (.fieldLink RX2 11 "SkyListeners$Rows" "cells" "[I") (by decide +kernel)) (fun _ h9 => h9) rfl dX2_dropFirst_4 ?_
      refine va_alen hx hb hK hP 1 0 rfl rfl (v := 48) rfl dX2_dropFirst_7 ?_
      refine lv_icmp_ge (tgt := 35) hx hb dX2_dropFirst_8 (by decide) (fun c_8 => ?_) (fun c_8 => ?_)
      · rw [if_pos c_8] at hrun
        exact X35 d_cells_2 H locs hP hD hS ls (lv_sub hl [0] rfl) hrun
      · rw [if_neg c_8] at hrun
        refine lv_aload_n hx hb dX2_dropFirst_11 rfl (lv_at hl 0 rfl) ?_
        refine va_get (D := (dC, dI)) (ci := 2) (v := .ref p_cells) (C := RX2) (T := TX2) (N := 3) hx hb hts iwX2 hown hK hP 0 rfl rfl 1 (by decide) (hts (.fieldLink RX2 11 "SkyListeners$Rows" "cells" "[I") (by decide +kernel)) (fun _ h9 => h9) rfl dX2_dropFirst_12 ?_
        refine lv_iload_n hx hb dX2_dropFirst_15 rfl (lv_at hl 1 rfl) ?_
        refine lv_iconst (v := 4) hx hb dX2_dropFirst_16 (by decide) ?_
        refine lv_isub hx hb dX2_dropFirst_17 ?_
        refine lv_aload_n hx hb dX2_dropFirst_18 rfl (lv_at hl 0 rfl) ?_
        refine va_get (D := (dC, dI)) (ci := 2) (v := .ref p_cells) (C := RX2) (T := TX2) (N := 3) hx hb hts iwX2 hown hK hP 0 rfl rfl 1 (by decide) (hts (.fieldLink RX2 11 "SkyListeners$Rows" "cells" "[I") (by decide +kernel)) (fun _ h9 => h9) rfl dX2_dropFirst_19 ?_
        refine lv_iload_n hx hb dX2_dropFirst_22 rfl (lv_at hl 1 rfl) ?_
        have hPc : va_P (dC, dI) vwCl [(p_cells, .inl (cI, 48, .inl d_cells_2))] H := hP.sub [1] rfl
        have hDc : va_D A [(p_cells, .inl (cI, 48, .inl d_cells_2))] := hD.sub [1] (by decide) rfl
        have hFc := va_free (wc := [(p_cells, .inl (cI, 48, .inl d_cells_2))]) hD hS hA [1] rfl
        refine va_calli (va_runSN (As := [.ref p_cells, .int x1_2]) (rest := [.int (x1_2 - 4), .ref p_cells]) ⟨hx, hb, hml, hown, hts⟩ (c_X5_at l dC dI cI cZ H.size p_cells 48 d_cells_2 x1_2 (by decide) (f_X5_at 48 d_cells_2 x1_2) rfl) ⟨va_cnB 2 hts gX2_dropFirst_X5_at_n40 rfl rfl rfl hN.2.2.2.2.2 (hts (.initialized RX5) (by decide +kernel)) (by decide +kernel) ⟨Nat.le_of_ble_eq_true rfl, Nat.le_of_ble_eq_true rfl⟩, hts (.static yX5_at) (by decide +kernel), trivial⟩ ⟨fun a U g mk q => ⟨q.1, PC.mv q.2⟩, fun U hU hW => ⟨rfl, PC.of hU hW hPc hK hDc hN⟩⟩ rfl rfl hl.1 rfl (lv_room (Nat.le_of_ble_eq_true rfl)) dX2_dropFirst_23 ⟨Nat.zero_le _, Nat.zero_le _⟩) hS (fun q _ h => hFc q h) hFc (fun r_23 u t H1 locs ht hvm hw hB hz1 hk1 hS => ?_)
        obtain ⟨hP1, hD1⟩ := hB
        try dsimp only at hw
        rw [hw]
        rw [ht] at hP1
        have hP : va_P (dC, dI) vwCl [(p_this, .inr (2, [.int d_most, .ref p_cells, .int d_many])), (p_cells, .inl (cI, 48, .inl d_cells_2))] H1 := join_ro hP hD [1] rfl hk1 hP1
        clear hPc hDc hFc hk1 hz1 hP1 hD1 ht hvm
        generalize H1 = H at hP hS ⊢
        have hPc : va_P (dC, dI) vwCl [(p_cells, .inl (cI, 48, .inl d_cells_2))] H := hP.sub [1] rfl
        have hDc : va_D A [(p_cells, .inl (cI, 48, .inl d_cells_2))] := hD.sub [1] (by decide) rfl
        have hFc := va_free (wc := [(p_cells, .inl (cI, 48, .inl d_cells_2))]) hD hS hA [1] rfl
        refine va_callv (va_runSN (As := [.ref p_cells, .int (x1_2 - 4), .int (f_X5_at 48 d_cells_2 x1_2)]) (rest := []) ⟨hx, hb, hml, hown, hts⟩ (c_X5_put l dC dI cI cZ H.size p_cells 48 d_cells_2 (x1_2 - 4) (f_X5_at 48 d_cells_2 x1_2) (by decide) (f_X5_put 48 d_cells_2 (x1_2 - 4) (f_X5_at 48 d_cells_2 x1_2)) rfl) ⟨va_cnB 3 hts gX2_dropFirst_X5_put_n44 rfl rfl rfl hN.2.2.2.2.1 (hts (.initialized RX5) (by decide +kernel)) (by decide +kernel) ⟨Nat.le_of_ble_eq_true rfl, Nat.le_of_ble_eq_true rfl⟩, hts (.static yX5_put) (by decide +kernel), trivial⟩ ⟨fun a U g mk q => ⟨q.1, PC.mv q.2⟩, fun U hU hW => ⟨rfl, PC.of hU hW hPc hK hDc hN⟩⟩ rfl rfl hl.1 rfl (lv_room (Nat.le_of_ble_eq_true rfl)) dX2_dropFirst_26 ⟨Nat.zero_le _, Nat.zero_le _⟩) hS (fun q _ h => hFc q h) hFc (fun u t H1 locs ht hvm hw hB hz1 hk1 hS => ?_)
        obtain ⟨hP1, hD1⟩ := hB
        rw [ht] at hP1
        obtain ⟨hP, hD⟩ := va_join (wr := [(p_this, .inr (2, [.int d_most, .ref p_cells, .int d_many]))]) (w1 := [(p_cells, .inl (cI, 48, .inl (f_X5_put 48 d_cells_2 (x1_2 - 4) (f_X5_at 48 d_cells_2 x1_2))))]) hP hD [1] [0] rfl rfl (by decide) (by decide) hk1 hFc hP1 hD1
        have hP : va_P (dC, dI) vwCl [(p_this, .inr (2, [.int d_most, .ref p_cells, .int d_many])), (p_cells, .inl (cI, 48, .inl (f_X5_put 48 d_cells_2 (x1_2 - 4) (f_X5_at 48 d_cells_2 x1_2))))] H1 := hP.sub [0, 1] rfl
        have hD : va_D A [(p_this, .inr (2, [.int d_most, .ref p_cells, .int d_many])), (p_cells, .inl (cI, 48, .inl (f_X5_put 48 d_cells_2 (x1_2 - 4) (f_X5_at 48 d_cells_2 x1_2))))] := hD.sub [0, 1] (by decide) rfl
        clear hPc hDc hFc hk1 hz1 hP1 hD1 ht hvm
        generalize H1 = H at hP hS ⊢
        refine lv_iinc (v := x1_2 + 1) (lv' := [(1, .int (x1_2 + 1)), (0, .ref p_this)]) hx hb dX2_dropFirst_29 hl (k := 1) rfl rfl (by decide) rfl (fun ls hl => ?_)
        refine lv_goto (tgt := 2) hx hb dX2_dropFirst_32 (by decide) ?_
        exact ih2 (x1_2 + 1) (f_X5_put 48 d_cells_2 (x1_2 - 4) (f_X5_at 48 d_cells_2 x1_2)) H locs hP hD hS ls (lv_sub hl [1, 0] rfl) hrun
  exact L2 FU 4 d_cells H locs hP hD hS ls (lv_sub hl [1, 0] rfl) hrun
-- SkyListeners$Rows.countWith
def f_X2_countWith_J28 (K5 : Int32 → Int32 → Option (Int32)) (x1 : Int32) (x2 : Int32) (x4 : Int32) (d_many : Int32) (d_cells : Nat → Int32) (x3 : Int32) : Option (Int32) := (K5 x3 (x4 + 1))
def f_X2_countWith_L5 (x1 : Int32) (x2 : Int32) (d_many : Int32) (d_cells : Nat → Int32) : Nat → Int32 → Int32 → Option (Int32)
  | 0, _, _ => none
  | n9 + 1, x3, x4 => (if d_many ≤ x4 then (some x3) else (if (f_X2_number d_many d_cells x4 x1) = x2 then (f_X2_countWith_J28 (f_X2_countWith_L5  x1 x2 d_many d_cells n9) x1 x2 x4 d_many d_cells (x3 + 1)) else (f_X2_countWith_J28 (f_X2_countWith_L5  x1 x2 d_many d_cells n9) x1 x2 x4 d_many d_cells x3)))
def f_X2_countWith (d_many : Int32) (d_cells : Nat → Int32) (x1 : Int32) (x2 : Int32) : Option (Int32) := (f_X2_countWith_L5 x1 x2 d_many d_cells FU 0 0)
set_option maxHeartbeats 4000000 in
set_option maxRecDepth 100000 in
theorem c_X2_countWith (l : Launch) (dC : Nat → ClassId) (dI : Nat → Nat → Nat) (cI cZ : ClassId) (sz : Nat) (p_cells p_this : Nat) (d_most : Int32) (d_many : Int32) (d_cells : Nat → Int32) (x1 : Int32) (x2 : Int32) (out : Int32) (hrun : f_X2_countWith d_many d_cells x1 x2 = some out) : Met l yX2_countWith wsX2_countWith ({ frames := 2, cells := 0, slots := 0, locals := 44 } : Room) (va_Pc [.ref p_this, .int x1, .int x2] (PC dC dI cI cZ sz ([(p_this, .inr (2, [.int d_most, .ref p_cells, .int d_many])), (p_cells, .inl (cI, 48, .inl d_cells))] : va_W))) (va_Qi (fun r (_ : Unit) => r = out) (fun _ t => va_P (dC, dI) vwCl [(p_this, .inr (2, [.int d_most, .ref p_cells, .int d_many])), (p_cells, .inl (cI, 48, .inl d_cells))] t.heap ∧ va_D (va_A ([(p_this, .inr (2, [.int d_most, .ref p_cells, .int d_many])), (p_cells, .inl (cI, 48, .inl d_cells))] : va_W) sz) [(p_this, .inr (2, [.int d_most, .ref p_cells, .int d_many])), (p_cells, .inl (cI, 48, .inl d_cells))]) (va_A ([(p_this, .inr (2, [.int d_most, .ref p_cells, .int d_many])), (p_cells, .inl (cI, 48, .inl d_cells))] : va_W) sz)) 0 0 (va_A ([(p_this, .inr (2, [.int d_most, .ref p_cells, .int d_many])), (p_cells, .inl (cI, 48, .inl d_cells))] : va_W) sz) := by
  refine Met.ofW (cc := cX2_countWith) (maxL := 5) (ret := (some .int)) (by decide) rfl ?_
  intro p e s m args below meth c s₁ B hml hv
  obtain ⟨rfl, hsz, hP, hK, hD0, hN⟩ := hv
  have hx := B.exec
  have hb := B.bytes
  have hr := B.returns
  have hts := atoms_spec (ws := wsX2_countWith) B.pre
  have hown : s.vm.findClass RX2 = some m.cls := findClass_of_methodNamed B.named
  have hlocks := B.notSynchronized
  subst hsz
  have hD := hD0.self (sz := s.heap.size)
  generalize hAe : va_A ([(p_this, .inr (2, [.int d_most, .ref p_cells, .int d_many])), (p_cells, .inl (cI, 48, .inl d_cells))] : va_W) s.heap.size = A at hD ⊢
  have hA : ∀ q : Nat, s.heap.size ≤ q → A q := fun q h => by rw [← hAe]; exact Or.inr h
  have hS : va_S A s.heap s.heap [] := va_S.rf
  refine W_abs (fun Q hQ => ?_)
  have hl := lv_entry ([.ref p_this, .int x1, .int x2]) (n := 5) (Nat.le_of_ble_eq_true rfl)
  rw [lg_entry_eq]
  generalize (lg_sl ([.ref p_this, .int x1, .int x2]) ++ List.replicate (5 - (lg_sl ([.ref p_this, .int x1, .int x2])).length) Slot.unset).toArray = ls at hl ⊢
  have hl : lv_has ls 5 [(0, .ref p_this), (1, .int x1), (2, .int x2)] := hl
  rw [f_X2_countWith] at hrun
  refine W_start (ws := [(p_this, .inr (2, [.int d_most, .ref p_cells, .int d_many])), (p_cells, .inl (cI, 48, .inl d_cells))]) hP hS (fun H locs hP hS => ?_)
  have iwX2 : ∀ w ∈ wsX20, w ∈ wsX2_countWith := by decide +kernel
  refine lv_iconst (v := 0) hx hb dX2_countWith_0 (by decide) ?_
  refine lv_istore_n (lv' := [(3, .int 0), (0, .ref p_this), (1, .int x1), (2, .int x2)]) hx hb dX2_countWith_1 rfl hl (by decide) rfl (fun ls hl => ?_)
  refine lv_iconst (v := 0) hx hb dX2_countWith_2 (by decide) ?_
  refine lv_istore (lv' := [(4, .int 0), (3, .int 0), (0, .ref p_this), (1, .int x1), (2, .int x2)]) hx hb dX2_countWith_3 hl (by decide) rfl (fun ls hl => ?_)
  have L5 : ∀ (n9_5 : Nat) (x3_5 : Int32) (x4_5 : Int32) (H : Heap) (locs : List Loc), va_P (dC, dI) vwCl [(p_this, .inr (2, [.int d_most, .ref p_cells, .int d_many])), (p_cells, .inl (cI, 48, .inl d_cells))] H → va_D A [(p_this, .inr (2, [.int d_most, .ref p_cells, .int d_many])), (p_cells, .inl (cI, 48, .inl d_cells))] → va_S A s.heap H locs → ∀ ls : Array Slot, lv_has ls 5 [(0, .ref p_this), (1, .int x1), (2, .int x2), (3, .int x3_5), (4, .int x4_5)] → f_X2_countWith_L5 x1 x2 d_many d_cells n9_5 x3_5 x4_5 = some out → W p l e ({ frames := 2, cells := 0, slots := 0, locals := 44 } : Room) s m ([.ref p_this, .int x1, .int x2] : List Value).toArray below meth c H locs 0 0 Q (F0 m 5 ls []) := by
    intro n9_5
    induction n9_5 with
    | zero =>
      intro x3_5 x4_5 H locs hP hD hS ls hl hrun
      rw [f_X2_countWith_L5] at hrun
      cases hrun
    | succ n9_5 ih5 =>
      intro x3_5 x4_5 H locs hP hD hS ls hl hrun
      rw [f_X2_countWith_L5] at hrun
      refine lv_iload hx hb dX2_countWith_5 (lv_at hl 4 rfl) ?_
      refine lv_aload_n hx hb dX2_countWith_7 rfl (lv_at hl 0 rfl) ?_
      refine va_get (D := (dC, dI)) (ci := 2) (v := .int d_many) (C := RX2) (T := TX2) (N := 3) hx hb hts iwX2 hown hK hP 0 rfl rfl 2 (by decide) (hts (.fieldLink RX2 15 "SkyListeners$Rows" "many" "I") (by decide +kernel)) (fun _ h9 => h9) rfl dX2_countWith_8 ?_
      refine lv_icmp_ge (tgt := 34) hx hb dX2_countWith_11 (by decide) (fun c_11 => ?_) (fun c_11 => ?_)
      · rw [if_pos c_11] at hrun
        refine lv_iload_n hx hb dX2_countWith_34 rfl (lv_at hl 3 rfl) ?_
        have hrun := Option.some.inj hrun
        subst hrun
        rw [hQ]
        exact W.iret (v := x3_5) hx hb hr (fun t ht hW => ⟨⟨x3_5, (), rfl, rfl, by rw [ht]; exact hP, hD⟩, hS.F ht⟩) hS.2.2 dX2_countWith_35
      · rw [if_neg c_11] at hrun
        refine lv_aload_n hx hb dX2_countWith_14 rfl (lv_at hl 0 rfl) ?_
        refine lv_iload hx hb dX2_countWith_15 (lv_at hl 4 rfl) ?_
        refine lv_iload_n hx hb dX2_countWith_17 rfl (lv_at hl 1 rfl) ?_
        have hPc : va_P (dC, dI) vwCl [(p_this, .inr (2, [.int d_most, .ref p_cells, .int d_many])), (p_cells, .inl (cI, 48, .inl d_cells))] H := hP.sub [0, 1] rfl
        have hDc : va_D A [(p_this, .inr (2, [.int d_most, .ref p_cells, .int d_many])), (p_cells, .inl (cI, 48, .inl d_cells))] := hD.sub [0, 1] (by decide) rfl
        have hFc := va_free (wc := [(p_this, .inr (2, [.int d_most, .ref p_cells, .int d_many])), (p_cells, .inl (cI, 48, .inl d_cells))]) hD hS hA [0, 1] rfl
        refine va_calli (va_runV (As := [.int x4_5, .int x1]) (rest := []) ⟨hx, hb, hml, hown, hts⟩ (c_X2_number l dC dI cI cZ H.size p_cells p_this d_most d_many d_cells x4_5 x1 (f_X2_number d_many d_cells x4_5 x1) rfl) (cwV 2 hts gX2_countWith_X2_number rfl rfl rfl (by decide +kernel) ⟨Nat.le_of_ble_eq_true rfl, Nat.le_of_ble_eq_true rfl⟩) ⟨fun a U g mk q => ⟨q.1, PC.mv q.2⟩, va_recv hK hP (ci := 2) (q0 := 0) rfl rfl, fun U hU hW => ⟨rfl, PC.of hU hW hPc hK hDc hN⟩⟩ rfl rfl hl.1 rfl (lv_room (Nat.le_of_ble_eq_true rfl)) dX2_countWith_18 ⟨Nat.zero_le _, Nat.zero_le _⟩) hS (fun q _ h => hFc q h) hFc (fun r_18 u t H1 locs ht hvm hw hB hz1 hk1 hS => ?_)
        obtain ⟨hP1, hD1⟩ := hB
        try dsimp only at hw
        rw [hw]
        rw [ht] at hP1
        have hP : va_P (dC, dI) vwCl [(p_this, .inr (2, [.int d_most, .ref p_cells, .int d_many])), (p_cells, .inl (cI, 48, .inl d_cells))] H1 := join_ro hP hD [0, 1] rfl hk1 hP1
        clear hPc hDc hFc hk1 hz1 hP1 hD1 ht hvm
        generalize H1 = H at hP hS ⊢
        refine lv_iload_n hx hb dX2_countWith_21 rfl (lv_at hl 2 rfl) ?_
        have J28 : ∀ (x3_28 : Int32) (H : Heap) (locs : List Loc), va_P (dC, dI) vwCl [(p_this, .inr (2, [.int d_most, .ref p_cells, .int d_many])), (p_cells, .inl (cI, 48, .inl d_cells))] H → va_D A [(p_this, .inr (2, [.int d_most, .ref p_cells, .int d_many])), (p_cells, .inl (cI, 48, .inl d_cells))] → va_S A s.heap H locs → ∀ ls : Array Slot, lv_has ls 5 [(0, .ref p_this), (1, .int x1), (2, .int x2), (3, .int x3_28), (4, .int x4_5)] → f_X2_countWith_J28 (f_X2_countWith_L5 x1 x2 d_many d_cells n9_5) x1 x2 x4_5 d_many d_cells x3_28 = some out → W p l e ({ frames := 2, cells := 0, slots := 0, locals := 44 } : Room) s m ([.ref p_this, .int x1, .int x2] : List Value).toArray below meth c H locs 0 0 Q (F0 m 28 ls []) := by
          intro x3_28 H locs hP hD hS ls hl hrun
          rw [f_X2_countWith_J28] at hrun
          refine lv_iinc (v := x4_5 + 1) (lv' := [(4, .int (x4_5 + 1)), (0, .ref p_this), (1, .int x1), (2, .int x2), (3, .int x3_28)]) hx hb dX2_countWith_28 hl (k := 4) rfl rfl (by decide) rfl (fun ls hl => ?_)
          refine lv_goto (tgt := 5) hx hb dX2_countWith_31 (by decide) ?_
          exact ih5 x3_28 (x4_5 + 1) H locs hP hD hS ls (lv_sub hl [1, 2, 3, 4, 0] rfl) hrun
        refine lv_icmp_ne (tgt := 28) hx hb dX2_countWith_22 (by decide) (fun c_22 => ?_) (fun c_22 => ?_)
        · rw [if_neg c_22] at hrun
          exact J28 x3_5 H locs hP hD hS ls hl hrun
        · rw [if_pos c_22] at hrun
          refine lv_iinc (v := x3_5 + 1) (lv' := [(3, .int (x3_5 + 1)), (0, .ref p_this), (1, .int x1), (2, .int x2), (4, .int x4_5)]) hx hb dX2_countWith_25 hl (k := 3) rfl rfl (by decide) rfl (fun ls hl => ?_)
          exact J28 (x3_5 + 1) H locs hP hD hS ls (lv_sub hl [1, 2, 3, 0, 4] rfl) hrun
  exact L5 FU 0 0 H locs hP hD hS ls (lv_sub hl [2, 3, 4, 1, 0] rfl) hrun
-- SkyListeners$Rows.copyFrom
def f_X2_copyFrom_X38 (d_a1_many : Int32) (d_most : Int32) (d_many : Int32) (d_cells : Nat → Int32) : Option (Int32 × (Nat → Int32)) := (some ((if d_most < d_a1_many then d_most else d_a1_many), d_cells))
def f_X2_copyFrom_L7 (K38 : (Nat → Int32) → Option (Int32 × (Nat → Int32))) (d_a1_many : Int32) (d_a1_cells : Nat → Int32) (d_most : Int32) (d_many : Int32) : Nat → Int32 → (Nat → Int32) → Option (Int32 × (Nat → Int32))
  | 0, _, _ => none
  | n9 + 1, x2, d_cells => (if 48 ≤ x2 then (K38 d_cells) else (f_X2_copyFrom_L7 K38 d_a1_many d_a1_cells d_most d_many n9 (x2 + 1) (f_X5_put 48 d_cells x2 (f_X5_at 48 d_a1_cells x2))))
def f_X2_copyFrom (d_a1_many : Int32) (d_a1_cells : Nat → Int32) (d_most : Int32) (d_many : Int32) (d_cells : Nat → Int32) : Option (Int32 × (Nat → Int32)) := (f_X2_copyFrom_L7 (f_X2_copyFrom_X38 d_a1_many d_most d_many) d_a1_many d_a1_cells d_most d_many FU 0 d_cells)
set_option maxHeartbeats 4000000 in
set_option maxRecDepth 100000 in
theorem c_X2_copyFrom (l : Launch) (dC : Nat → ClassId) (dI : Nat → Nat → Nat) (cI cZ : ClassId) (sz : Nat) (p_a1 p_a1_cells p_cells p_this : Nat) (d_a1_most : Int32) (d_a1_many : Int32) (d_a1_cells : Nat → Int32) (d_most : Int32) (d_many : Int32) (d_cells : Nat → Int32) (out : Int32 × (Nat → Int32)) (hrun : f_X2_copyFrom d_a1_many d_a1_cells d_most d_many d_cells = some out) : Met l yX2_copyFrom wsX2_copyFrom ({ frames := 1, cells := 0, slots := 0, locals := 22 } : Room) (va_Pc [.ref p_this, .ref p_a1] (PC dC dI cI cZ sz ([(p_a1, .inr (2, [.int d_a1_most, .ref p_a1_cells, .int d_a1_many])), (p_a1_cells, .inl (cI, 48, .inl d_a1_cells)), (p_this, .inr (2, [.int d_most, .ref p_cells, .int d_many])), (p_cells, .inl (cI, 48, .inl d_cells))] : va_W))) (va_Qv (fun (_ : Unit) => True) (fun _ t => va_P (dC, dI) vwCl [(p_a1, .inr (2, [.int d_a1_most, .ref p_a1_cells, .int d_a1_many])), (p_a1_cells, .inl (cI, 48, .inl d_a1_cells)), (p_this, .inr (2, [.int d_most, .ref p_cells, .int out.1])), (p_cells, .inl (cI, 48, .inl out.2))] t.heap ∧ va_D (va_A ([(p_a1, .inr (2, [.int d_a1_most, .ref p_a1_cells, .int d_a1_many])), (p_a1_cells, .inl (cI, 48, .inl d_a1_cells)), (p_this, .inr (2, [.int d_most, .ref p_cells, .int d_many])), (p_cells, .inl (cI, 48, .inl d_cells))] : va_W) sz) [(p_a1, .inr (2, [.int d_a1_most, .ref p_a1_cells, .int d_a1_many])), (p_a1_cells, .inl (cI, 48, .inl d_a1_cells)), (p_this, .inr (2, [.int d_most, .ref p_cells, .int out.1])), (p_cells, .inl (cI, 48, .inl out.2))]) (va_A ([(p_a1, .inr (2, [.int d_a1_most, .ref p_a1_cells, .int d_a1_many])), (p_a1_cells, .inl (cI, 48, .inl d_a1_cells)), (p_this, .inr (2, [.int d_most, .ref p_cells, .int d_many])), (p_cells, .inl (cI, 48, .inl d_cells))] : va_W) sz)) 0 0 (va_A ([(p_a1, .inr (2, [.int d_a1_most, .ref p_a1_cells, .int d_a1_many])), (p_a1_cells, .inl (cI, 48, .inl d_a1_cells)), (p_this, .inr (2, [.int d_most, .ref p_cells, .int d_many])), (p_cells, .inl (cI, 48, .inl d_cells))] : va_W) sz) := by
  refine Met.ofW (cc := cX2_copyFrom) (maxL := 3) (ret := none) (by decide) rfl ?_
  intro p e s m args below meth c s₁ B hml hv
  obtain ⟨rfl, hsz, hP, hK, hD0, hN⟩ := hv
  have hx := B.exec
  have hb := B.bytes
  have hr := B.returns
  have hts := atoms_spec (ws := wsX2_copyFrom) B.pre
  have hown : s.vm.findClass RX2 = some m.cls := findClass_of_methodNamed B.named
  have hlocks := B.notSynchronized
  subst hsz
  have hD := hD0.self (sz := s.heap.size)
  generalize hAe : va_A ([(p_a1, .inr (2, [.int d_a1_most, .ref p_a1_cells, .int d_a1_many])), (p_a1_cells, .inl (cI, 48, .inl d_a1_cells)), (p_this, .inr (2, [.int d_most, .ref p_cells, .int d_many])), (p_cells, .inl (cI, 48, .inl d_cells))] : va_W) s.heap.size = A at hD ⊢
  have hA : ∀ q : Nat, s.heap.size ≤ q → A q := fun q h => by rw [← hAe]; exact Or.inr h
  have hS : va_S A s.heap s.heap [] := va_S.rf
  refine W_abs (fun Q hQ => ?_)
  have hl := lv_entry ([.ref p_this, .ref p_a1]) (n := 3) (Nat.le_of_ble_eq_true rfl)
  rw [lg_entry_eq]
  generalize (lg_sl ([.ref p_this, .ref p_a1]) ++ List.replicate (3 - (lg_sl ([.ref p_this, .ref p_a1])).length) Slot.unset).toArray = ls at hl ⊢
  have hl : lv_has ls 3 [(0, .ref p_this), (1, .ref p_a1)] := hl
  rw [f_X2_copyFrom] at hrun
  refine W_start (ws := [(p_a1, .inr (2, [.int d_a1_most, .ref p_a1_cells, .int d_a1_many])), (p_a1_cells, .inl (cI, 48, .inl d_a1_cells)), (p_this, .inr (2, [.int d_most, .ref p_cells, .int d_many])), (p_cells, .inl (cI, 48, .inl d_cells))]) hP hS (fun H locs hP hS => ?_)
  have iwX2 : ∀ w ∈ wsX20, w ∈ wsX2_copyFrom := by decide +kernel
  refine lv_aload_n hx hb dX2_copyFrom_0 rfl (lv_at hl 1 rfl) ?_
  refine lv_ifnonnull (tgt := 5) hx hb dX2_copyFrom_1 (by decide) ?_
  refine lv_iconst (v := 0) hx hb dX2_copyFrom_5 (by decide) ?_
  refine lv_istore_n (lv' := [(2, .int 0), (0, .ref p_this), (1, .ref p_a1)]) hx hb dX2_copyFrom_6 rfl hl (by decide) rfl (fun ls hl => ?_)
  have X38 : ∀ (d_cells_38 : Nat → Int32) (H : Heap) (locs : List Loc), va_P (dC, dI) vwCl [(p_a1, .inr (2, [.int d_a1_most, .ref p_a1_cells, .int d_a1_many])), (p_a1_cells, .inl (cI, 48, .inl d_a1_cells)), (p_this, .inr (2, [.int d_most, .ref p_cells, .int d_many])), (p_cells, .inl (cI, 48, .inl d_cells_38))] H → va_D A [(p_a1, .inr (2, [.int d_a1_most, .ref p_a1_cells, .int d_a1_many])), (p_a1_cells, .inl (cI, 48, .inl d_a1_cells)), (p_this, .inr (2, [.int d_most, .ref p_cells, .int d_many])), (p_cells, .inl (cI, 48, .inl d_cells_38))] → va_S A s.heap H locs → ∀ ls : Array Slot, lv_has ls 3 [(0, .ref p_this), (1, .ref p_a1)] → f_X2_copyFrom_X38 d_a1_many d_most d_many d_cells_38 = some out → W p l e ({ frames := 1, cells := 0, slots := 0, locals := 22 } : Room) s m ([.ref p_this, .ref p_a1] : List Value).toArray below meth c H locs 0 0 Q (F0 m 38 ls []) := by
    intro d_cells_38 H locs hP hD hS ls hl hrun
    rw [f_X2_copyFrom_X38] at hrun
    refine lv_aload_n hx hb dX2_copyFrom_38 rfl (lv_at hl 0 rfl) ?_
    refine lv_aload_n hx hb dX2_copyFrom_39 rfl (lv_at hl 1 rfl) ?_
    refine va_get (D := (dC, dI)) (ci := 2) (v := .int d_a1_many) (C := RX2) (T := TX2) (N := 3) hx hb hts iwX2 hown hK hP 0 rfl rfl 2 (by decide) (hts (.fieldLink RX2 15 "SkyListeners$Rows" "many" "I") (by decide +kernel)) (fun _ h9 => h9) rfl dX2_copyFrom_40 ?_
    refine lv_aload_n hx hb dX2_copyFrom_43 rfl (lv_at hl 0 rfl) ?_
    refine va_get (D := (dC, dI)) (ci := 2) (v := .int d_most) (C := RX2) (T := TX2) (N := 3) hx hb hts iwX2 hown hK hP 2 rfl rfl 0 (by decide) (hts (.fieldLink RX2 25 "SkyListeners$Rows" "most" "I") (by decide +kernel)) (fun _ h9 => h9) rfl dX2_copyFrom_44 ?_
    refine va_mmin hx hb (hml.trans hl.1.symm) hown (hts (.methodLink RX2 19 Lib.Math.min.name) (by decide +kernel)) (hts (.static Lib.Math.min.name) (by decide +kernel)) (hts (.initialized "java/lang/Math") (by decide +kernel)) (hts (.code Lib.Math.min.name Lib.Math.min.code 2 (some .int)) (by decide +kernel)) (Nat.le_of_ble_eq_true rfl) (Nat.le_of_ble_eq_true rfl) (Nat.zero_le _) (Nat.zero_le _) dX2_copyFrom_47 ?_
    refine va_put (D := (dC, dI)) (ci := 2) (v := .int (if d_most < d_a1_many then d_most else d_a1_many)) (ty := .int) (C := RX2) (T := TX2) (N := 3) hx hb hts iwX2 tyX2 tyX2_ok nmX2 hown hK hP hD hS 2 rfl rfl 2 (by decide) (hts (.fieldLink RX2 15 "SkyListeners$Rows" "many" "I") (by decide +kernel)) (fun _ h9 => h9) rfl (by decide +kernel) rfl rfl (Nat.le_of_ble_eq_true rfl) dX2_copyFrom_50 (fun H locs hP hD hS => ?_)
    have hP : va_P (dC, dI) vwCl [(p_a1, .inr (2, [.int d_a1_most, .ref p_a1_cells, .int d_a1_many])), (p_a1_cells, .inl (cI, 48, .inl d_a1_cells)), (p_this, .inr (2, [.int d_most, .ref p_cells, .int (if d_most < d_a1_many then d_most else d_a1_many)])), (p_cells, .inl (cI, 48, .inl d_cells_38))] H := hP
    have hD : va_D A [(p_a1, .inr (2, [.int d_a1_most, .ref p_a1_cells, .int d_a1_many])), (p_a1_cells, .inl (cI, 48, .inl d_a1_cells)), (p_this, .inr (2, [.int d_most, .ref p_cells, .int (if d_most < d_a1_many then d_most else d_a1_many)])), (p_cells, .inl (cI, 48, .inl d_cells_38))] := hD
    have hrun := Option.some.inj hrun
    subst hrun
    rw [hQ]
    exact W.vret hx hb hr (fun t ht hW => ⟨⟨(), rfl, trivial, by rw [ht]; exact hP, hD⟩, hS.F ht⟩) hS.2.2 dX2_copyFrom_53
  have L7 : ∀ (n9_7 : Nat) (x2_7 : Int32) (d_cells_7 : Nat → Int32) (H : Heap) (locs : List Loc), va_P (dC, dI) vwCl [(p_a1, .inr (2, [.int d_a1_most, .ref p_a1_cells, .int d_a1_many])), (p_a1_cells, .inl (cI, 48, .inl d_a1_cells)), (p_this, .inr (2, [.int d_most, .ref p_cells, .int d_many])), (p_cells, .inl (cI, 48, .inl d_cells_7))] H → va_D A [(p_a1, .inr (2, [.int d_a1_most, .ref p_a1_cells, .int d_a1_many])), (p_a1_cells, .inl (cI, 48, .inl d_a1_cells)), (p_this, .inr (2, [.int d_most, .ref p_cells, .int d_many])), (p_cells, .inl (cI, 48, .inl d_cells_7))] → va_S A s.heap H locs → ∀ ls : Array Slot, lv_has ls 3 [(0, .ref p_this), (1, .ref p_a1), (2, .int x2_7)] → f_X2_copyFrom_L7 (f_X2_copyFrom_X38 d_a1_many d_most d_many) d_a1_many d_a1_cells d_most d_many n9_7 x2_7 d_cells_7 = some out → W p l e ({ frames := 1, cells := 0, slots := 0, locals := 22 } : Room) s m ([.ref p_this, .ref p_a1] : List Value).toArray below meth c H locs 0 0 Q (F0 m 7 ls []) := by
    intro n9_7
    induction n9_7 with
    | zero =>
      intro x2_7 d_cells_7 H locs hP hD hS ls hl hrun
      rw [f_X2_copyFrom_L7] at hrun
      cases hrun
    | succ n9_7 ih7 =>
      intro x2_7 d_cells_7 H locs hP hD hS ls hl hrun
      rw [f_X2_copyFrom_L7] at hrun
      refine lv_iload_n hx hb dX2_copyFrom_7 rfl (lv_at hl 2 rfl) ?_
      refine lv_aload_n hx hb dX2_copyFrom_8 rfl (lv_at hl 0 rfl) ?_
      refine va_get (D := (dC, dI)) (ci := 2) (v := .ref p_cells) (C := RX2) (T := TX2) (N := 3) hx hb hts iwX2 hown hK hP 2 rfl rfl 1 (by decide) (hts (.fieldLink RX2 11 "SkyListeners$Rows" "cells" "[I") (by decide +kernel)) (fun _ h9 => h9) rfl dX2_copyFrom_9 ?_
      refine va_alen hx hb hK hP 3 0 rfl rfl (v := 48) rfl dX2_copyFrom_12 ?_
      refine lv_icmp_ge (tgt := 38) hx hb dX2_copyFrom_13 (by decide) (fun c_13 => ?_) (fun c_13 => ?_)
      · rw [if_pos c_13] at hrun
        exact X38 d_cells_7 H locs hP hD hS ls (lv_sub hl [0, 1] rfl) hrun
      · rw [if_neg c_13] at hrun
        refine lv_aload_n hx hb dX2_copyFrom_16 rfl (lv_at hl 0 rfl) ?_
        refine va_get (D := (dC, dI)) (ci := 2) (v := .ref p_cells) (C := RX2) (T := TX2) (N := 3) hx hb hts iwX2 hown hK hP 2 rfl rfl 1 (by decide) (hts (.fieldLink RX2 11 "SkyListeners$Rows" "cells" "[I") (by decide +kernel)) (fun _ h9 => h9) rfl dX2_copyFrom_17 ?_
        refine lv_iload_n hx hb dX2_copyFrom_20 rfl (lv_at hl 2 rfl) ?_
        refine lv_aload_n hx hb dX2_copyFrom_21 rfl (lv_at hl 1 rfl) ?_
        refine va_get (D := (dC, dI)) (ci := 2) (v := .ref p_a1_cells) (C := RX2) (T := TX2) (N := 3) hx hb hts iwX2 hown hK hP 0 rfl rfl 1 (by decide) (hts (.fieldLink RX2 11 "SkyListeners$Rows" "cells" "[I") (by decide +kernel)) (fun _ h9 => h9) rfl dX2_copyFrom_22 ?_
        refine lv_iload_n hx hb dX2_copyFrom_25 rfl (lv_at hl 2 rfl) ?_
        have hPc : va_P (dC, dI) vwCl [(p_a1_cells, .inl (cI, 48, .inl d_a1_cells))] H := hP.sub [1] rfl
        have hDc : va_D A [(p_a1_cells, .inl (cI, 48, .inl d_a1_cells))] := hD.sub [1] (by decide) rfl
        have hFc := va_free (wc := [(p_a1_cells, .inl (cI, 48, .inl d_a1_cells))]) hD hS hA [1] rfl
        refine va_calli (va_runSN (As := [.ref p_a1_cells, .int x2_7]) (rest := [.int x2_7, .ref p_cells]) ⟨hx, hb, hml, hown, hts⟩ (c_X5_at l dC dI cI cZ H.size p_a1_cells 48 d_a1_cells x2_7 (by decide) (f_X5_at 48 d_a1_cells x2_7) rfl) ⟨va_cnB 2 hts gX2_copyFrom_X5_at_n40 rfl rfl rfl hN.2.2.2.2.2 (hts (.initialized RX5) (by decide +kernel)) (by decide +kernel) ⟨Nat.le_of_ble_eq_true rfl, Nat.le_of_ble_eq_true rfl⟩, hts (.static yX5_at) (by decide +kernel), trivial⟩ ⟨fun a U g mk q => ⟨q.1, PC.mv q.2⟩, fun U hU hW => ⟨rfl, PC.of hU hW hPc hK hDc hN⟩⟩ rfl rfl hl.1 rfl (lv_room (Nat.le_of_ble_eq_true rfl)) dX2_copyFrom_26 ⟨Nat.zero_le _, Nat.zero_le _⟩) hS (fun q _ h => hFc q h) hFc (fun r_26 u t H1 locs ht hvm hw hB hz1 hk1 hS => ?_)
        obtain ⟨hP1, hD1⟩ := hB
        try dsimp only at hw
        rw [hw]
        rw [ht] at hP1
        have hP : va_P (dC, dI) vwCl [(p_a1, .inr (2, [.int d_a1_most, .ref p_a1_cells, .int d_a1_many])), (p_a1_cells, .inl (cI, 48, .inl d_a1_cells)), (p_this, .inr (2, [.int d_most, .ref p_cells, .int d_many])), (p_cells, .inl (cI, 48, .inl d_cells_7))] H1 := join_ro hP hD [1] rfl hk1 hP1
        clear hPc hDc hFc hk1 hz1 hP1 hD1 ht hvm
        generalize H1 = H at hP hS ⊢
        have hPc : va_P (dC, dI) vwCl [(p_cells, .inl (cI, 48, .inl d_cells_7))] H := hP.sub [3] rfl
        have hDc : va_D A [(p_cells, .inl (cI, 48, .inl d_cells_7))] := hD.sub [3] (by decide) rfl
        have hFc := va_free (wc := [(p_cells, .inl (cI, 48, .inl d_cells_7))]) hD hS hA [3] rfl
        refine va_callv (va_runSN (As := [.ref p_cells, .int x2_7, .int (f_X5_at 48 d_a1_cells x2_7)]) (rest := []) ⟨hx, hb, hml, hown, hts⟩ (c_X5_put l dC dI cI cZ H.size p_cells 48 d_cells_7 x2_7 (f_X5_at 48 d_a1_cells x2_7) (by decide) (f_X5_put 48 d_cells_7 x2_7 (f_X5_at 48 d_a1_cells x2_7)) rfl) ⟨va_cnB 3 hts gX2_copyFrom_X5_put_n44 rfl rfl rfl hN.2.2.2.2.1 (hts (.initialized RX5) (by decide +kernel)) (by decide +kernel) ⟨Nat.le_of_ble_eq_true rfl, Nat.le_of_ble_eq_true rfl⟩, hts (.static yX5_put) (by decide +kernel), trivial⟩ ⟨fun a U g mk q => ⟨q.1, PC.mv q.2⟩, fun U hU hW => ⟨rfl, PC.of hU hW hPc hK hDc hN⟩⟩ rfl rfl hl.1 rfl (lv_room (Nat.le_of_ble_eq_true rfl)) dX2_copyFrom_29 ⟨Nat.zero_le _, Nat.zero_le _⟩) hS (fun q _ h => hFc q h) hFc (fun u t H1 locs ht hvm hw hB hz1 hk1 hS => ?_)
        obtain ⟨hP1, hD1⟩ := hB
        rw [ht] at hP1
        obtain ⟨hP, hD⟩ := va_join (wr := [(p_a1, .inr (2, [.int d_a1_most, .ref p_a1_cells, .int d_a1_many])), (p_a1_cells, .inl (cI, 48, .inl d_a1_cells)), (p_this, .inr (2, [.int d_most, .ref p_cells, .int d_many]))]) (w1 := [(p_cells, .inl (cI, 48, .inl (f_X5_put 48 d_cells_7 x2_7 (f_X5_at 48 d_a1_cells x2_7))))]) hP hD [3] [0, 1, 2] rfl rfl (by decide) (by decide) hk1 hFc hP1 hD1
        have hP : va_P (dC, dI) vwCl [(p_a1, .inr (2, [.int d_a1_most, .ref p_a1_cells, .int d_a1_many])), (p_a1_cells, .inl (cI, 48, .inl d_a1_cells)), (p_this, .inr (2, [.int d_most, .ref p_cells, .int d_many])), (p_cells, .inl (cI, 48, .inl (f_X5_put 48 d_cells_7 x2_7 (f_X5_at 48 d_a1_cells x2_7))))] H1 := hP.sub [0, 1, 2, 3] rfl
        have hD : va_D A [(p_a1, .inr (2, [.int d_a1_most, .ref p_a1_cells, .int d_a1_many])), (p_a1_cells, .inl (cI, 48, .inl d_a1_cells)), (p_this, .inr (2, [.int d_most, .ref p_cells, .int d_many])), (p_cells, .inl (cI, 48, .inl (f_X5_put 48 d_cells_7 x2_7 (f_X5_at 48 d_a1_cells x2_7))))] := hD.sub [0, 1, 2, 3] (by decide) rfl
        clear hPc hDc hFc hk1 hz1 hP1 hD1 ht hvm
        generalize H1 = H at hP hS ⊢
        refine lv_iinc (v := x2_7 + 1) (lv' := [(2, .int (x2_7 + 1)), (0, .ref p_this), (1, .ref p_a1)]) hx hb dX2_copyFrom_32 hl (k := 2) rfl rfl (by decide) rfl (fun ls hl => ?_)
        refine lv_goto (tgt := 7) hx hb dX2_copyFrom_35 (by decide) ?_
        exact ih7 (x2_7 + 1) (f_X5_put 48 d_cells_7 x2_7 (f_X5_at 48 d_a1_cells x2_7)) H locs hP hD hS ls (lv_sub hl [1, 2, 0] rfl) hrun
  exact L7 FU 0 d_cells H locs hP hD hS ls (lv_sub hl [1, 2, 0] rfl) hrun
