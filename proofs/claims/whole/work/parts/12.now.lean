-- SkyListeners$Now.begin
def f_X0_begin (d_a1_dishes_many : Int32) (d_a1_dishes_cells : Nat → Int32) (d_lendings_many : Int32) (d_log_many : Int32) (d_mounts_most : Int32) (d_mounts_many : Int32) (d_mounts_cells : Nat → Int32) (d_undos_many : Int32) : Option (Int32 × Int32 × Int32 × (Nat → Int32) × Int32) := ((f_X2_copyFrom d_a1_dishes_many d_a1_dishes_cells d_mounts_most d_mounts_many d_mounts_cells).bind fun q13 => (some ((f_X2_empty d_lendings_many), (f_X2_empty d_log_many), q13.1, q13.2, (f_X2_empty d_undos_many))))
set_option maxHeartbeats 4000000 in
set_option maxRecDepth 100000 in
theorem c_X0_begin (l : Launch) (dC : Nat → ClassId) (dI : Nat → Nat → Nat) (cI cZ : ClassId) (sz : Nat) (p_a1 p_a1_askers p_a1_dishes p_a1_dishes_cells p_a1_noises p_a1_speakers p_lendings p_lendings_cells p_log p_log_cells p_mounts p_mounts_cells p_this p_undos p_undos_cells : Nat) (d_a1_dishes_most : Int32) (d_a1_dishes_many : Int32) (d_a1_dishes_cells : Nat → Int32) (d_lendings_most : Int32) (d_lendings_many : Int32) (d_log_most : Int32) (d_log_many : Int32) (d_mounts_most : Int32) (d_mounts_many : Int32) (d_mounts_cells : Nat → Int32) (d_undos_most : Int32) (d_undos_many : Int32) (out : Int32 × Int32 × Int32 × (Nat → Int32) × Int32) (hrun : f_X0_begin d_a1_dishes_many d_a1_dishes_cells d_lendings_many d_log_many d_mounts_most d_mounts_many d_mounts_cells d_undos_many = some out) : Met l yX0_begin wsX0_begin ({ frames := 2, cells := 0, slots := 0, locals := 44 } : Room) (va_Pc [.ref p_this, .ref p_a1] (PC dC dI cI cZ sz ([(p_a1, .inr (4, [.ref p_a1_dishes, .ref p_a1_speakers, .ref p_a1_noises, .ref p_a1_askers])), (p_a1_dishes, .inr (2, [.int d_a1_dishes_most, .ref p_a1_dishes_cells, .int d_a1_dishes_many])), (p_a1_dishes_cells, .inl (cI, 48, .inl d_a1_dishes_cells)), (p_this, .inr (0, [.ref p_mounts, .ref p_lendings, .ref p_log, .ref p_undos])), (p_lendings, .inr (2, [.int d_lendings_most, .ref p_lendings_cells, .int d_lendings_many])), (p_log, .inr (2, [.int d_log_most, .ref p_log_cells, .int d_log_many])), (p_mounts, .inr (2, [.int d_mounts_most, .ref p_mounts_cells, .int d_mounts_many])), (p_mounts_cells, .inl (cI, 48, .inl d_mounts_cells)), (p_undos, .inr (2, [.int d_undos_most, .ref p_undos_cells, .int d_undos_many]))] : va_W))) (va_Qv (fun (_ : Unit) => True) (fun _ t => va_P (dC, dI) vwCl [(p_a1, .inr (4, [.ref p_a1_dishes, .ref p_a1_speakers, .ref p_a1_noises, .ref p_a1_askers])), (p_a1_dishes, .inr (2, [.int d_a1_dishes_most, .ref p_a1_dishes_cells, .int d_a1_dishes_many])), (p_a1_dishes_cells, .inl (cI, 48, .inl d_a1_dishes_cells)), (p_this, .inr (0, [.ref p_mounts, .ref p_lendings, .ref p_log, .ref p_undos])), (p_lendings, .inr (2, [.int d_lendings_most, .ref p_lendings_cells, .int out.1])), (p_log, .inr (2, [.int d_log_most, .ref p_log_cells, .int out.2.1])), (p_mounts, .inr (2, [.int d_mounts_most, .ref p_mounts_cells, .int out.2.2.1])), (p_mounts_cells, .inl (cI, 48, .inl out.2.2.2.1)), (p_undos, .inr (2, [.int d_undos_most, .ref p_undos_cells, .int out.2.2.2.2]))] t.heap ∧ va_D (va_A ([(p_a1, .inr (4, [.ref p_a1_dishes, .ref p_a1_speakers, .ref p_a1_noises, .ref p_a1_askers])), (p_a1_dishes, .inr (2, [.int d_a1_dishes_most, .ref p_a1_dishes_cells, .int d_a1_dishes_many])), (p_a1_dishes_cells, .inl (cI, 48, .inl d_a1_dishes_cells)), (p_this, .inr (0, [.ref p_mounts, .ref p_lendings, .ref p_log, .ref p_undos])), (p_lendings, .inr (2, [.int d_lendings_most, .ref p_lendings_cells, .int d_lendings_many])), (p_log, .inr (2, [.int d_log_most, .ref p_log_cells, .int d_log_many])), (p_mounts, .inr (2, [.int d_mounts_most, .ref p_mounts_cells, .int d_mounts_many])), (p_mounts_cells, .inl (cI, 48, .inl d_mounts_cells)), (p_undos, .inr (2, [.int d_undos_most, .ref p_undos_cells, .int d_undos_many]))] : va_W) sz) [(p_a1, .inr (4, [.ref p_a1_dishes, .ref p_a1_speakers, .ref p_a1_noises, .ref p_a1_askers])), (p_a1_dishes, .inr (2, [.int d_a1_dishes_most, .ref p_a1_dishes_cells, .int d_a1_dishes_many])), (p_a1_dishes_cells, .inl (cI, 48, .inl d_a1_dishes_cells)), (p_this, .inr (0, [.ref p_mounts, .ref p_lendings, .ref p_log, .ref p_undos])), (p_lendings, .inr (2, [.int d_lendings_most, .ref p_lendings_cells, .int out.1])), (p_log, .inr (2, [.int d_log_most, .ref p_log_cells, .int out.2.1])), (p_mounts, .inr (2, [.int d_mounts_most, .ref p_mounts_cells, .int out.2.2.1])), (p_mounts_cells, .inl (cI, 48, .inl out.2.2.2.1)), (p_undos, .inr (2, [.int d_undos_most, .ref p_undos_cells, .int out.2.2.2.2]))]) (va_A ([(p_a1, .inr (4, [.ref p_a1_dishes, .ref p_a1_speakers, .ref p_a1_noises, .ref p_a1_askers])), (p_a1_dishes, .inr (2, [.int d_a1_dishes_most, .ref p_a1_dishes_cells, .int d_a1_dishes_many])), (p_a1_dishes_cells, .inl (cI, 48, .inl d_a1_dishes_cells)), (p_this, .inr (0, [.ref p_mounts, .ref p_lendings, .ref p_log, .ref p_undos])), (p_lendings, .inr (2, [.int d_lendings_most, .ref p_lendings_cells, .int d_lendings_many])), (p_log, .inr (2, [.int d_log_most, .ref p_log_cells, .int d_log_many])), (p_mounts, .inr (2, [.int d_mounts_most, .ref p_mounts_cells, .int d_mounts_many])), (p_mounts_cells, .inl (cI, 48, .inl d_mounts_cells)), (p_undos, .inr (2, [.int d_undos_most, .ref p_undos_cells, .int d_undos_many]))] : va_W) sz)) 0 0 (va_A ([(p_a1, .inr (4, [.ref p_a1_dishes, .ref p_a1_speakers, .ref p_a1_noises, .ref p_a1_askers])), (p_a1_dishes, .inr (2, [.int d_a1_dishes_most, .ref p_a1_dishes_cells, .int d_a1_dishes_many])), (p_a1_dishes_cells, .inl (cI, 48, .inl d_a1_dishes_cells)), (p_this, .inr (0, [.ref p_mounts, .ref p_lendings, .ref p_log, .ref p_undos])), (p_lendings, .inr (2, [.int d_lendings_most, .ref p_lendings_cells, .int d_lendings_many])), (p_log, .inr (2, [.int d_log_most, .ref p_log_cells, .int d_log_many])), (p_mounts, .inr (2, [.int d_mounts_most, .ref p_mounts_cells, .int d_mounts_many])), (p_mounts_cells, .inl (cI, 48, .inl d_mounts_cells)), (p_undos, .inr (2, [.int d_undos_most, .ref p_undos_cells, .int d_undos_many]))] : va_W) sz) := by
  refine Met.ofW (cc := cX0_begin) (maxL := 2) (ret := none) (by decide) rfl ?_
  intro p e s m args below meth c s₁ B hml hv
  obtain ⟨rfl, hsz, hP, hK, hD0, hN⟩ := hv
  have hx := B.exec
  have hb := B.bytes
  have hr := B.returns
  have hts := atoms_spec (ws := wsX0_begin) B.pre
  have hown : s.vm.findClass RX0 = some m.cls := findClass_of_methodNamed B.named
  have hlocks := B.notSynchronized
  subst hsz
  have hD := hD0.self (sz := s.heap.size)
  generalize hAe : va_A ([(p_a1, .inr (4, [.ref p_a1_dishes, .ref p_a1_speakers, .ref p_a1_noises, .ref p_a1_askers])), (p_a1_dishes, .inr (2, [.int d_a1_dishes_most, .ref p_a1_dishes_cells, .int d_a1_dishes_many])), (p_a1_dishes_cells, .inl (cI, 48, .inl d_a1_dishes_cells)), (p_this, .inr (0, [.ref p_mounts, .ref p_lendings, .ref p_log, .ref p_undos])), (p_lendings, .inr (2, [.int d_lendings_most, .ref p_lendings_cells, .int d_lendings_many])), (p_log, .inr (2, [.int d_log_most, .ref p_log_cells, .int d_log_many])), (p_mounts, .inr (2, [.int d_mounts_most, .ref p_mounts_cells, .int d_mounts_many])), (p_mounts_cells, .inl (cI, 48, .inl d_mounts_cells)), (p_undos, .inr (2, [.int d_undos_most, .ref p_undos_cells, .int d_undos_many]))] : va_W) s.heap.size = A at hD ⊢
  have hA : ∀ q : Nat, s.heap.size ≤ q → A q := fun q h => by rw [← hAe]; exact Or.inr h
  have hS : va_S A s.heap s.heap [] := va_S.rf
  refine W_abs (fun Q hQ => ?_)
  have hl := lv_entry ([.ref p_this, .ref p_a1]) (n := 2) (Nat.le_of_ble_eq_true rfl)
  rw [lg_entry_eq]
  generalize (lg_sl ([.ref p_this, .ref p_a1]) ++ List.replicate (2 - (lg_sl ([.ref p_this, .ref p_a1])).length) Slot.unset).toArray = ls at hl ⊢
  have hl : lv_has ls 2 [(0, .ref p_this), (1, .ref p_a1)] := hl
  rw [f_X0_begin] at hrun
  refine W_start (ws := [(p_a1, .inr (4, [.ref p_a1_dishes, .ref p_a1_speakers, .ref p_a1_noises, .ref p_a1_askers])), (p_a1_dishes, .inr (2, [.int d_a1_dishes_most, .ref p_a1_dishes_cells, .int d_a1_dishes_many])), (p_a1_dishes_cells, .inl (cI, 48, .inl d_a1_dishes_cells)), (p_this, .inr (0, [.ref p_mounts, .ref p_lendings, .ref p_log, .ref p_undos])), (p_lendings, .inr (2, [.int d_lendings_most, .ref p_lendings_cells, .int d_lendings_many])), (p_log, .inr (2, [.int d_log_most, .ref p_log_cells, .int d_log_many])), (p_mounts, .inr (2, [.int d_mounts_most, .ref p_mounts_cells, .int d_mounts_many])), (p_mounts_cells, .inl (cI, 48, .inl d_mounts_cells)), (p_undos, .inr (2, [.int d_undos_most, .ref p_undos_cells, .int d_undos_many]))]) hP hS (fun H locs hP hS => ?_)
  have iwX0 : ∀ w ∈ wsX00, w ∈ wsX0_begin := by decide +kernel
  have iwX4 : ∀ w ∈ wsX40, w ∈ wsX0_begin := by decide +kernel
  refine lv_aload_n hx hb dX0_begin_0 rfl (lv_at hl 1 rfl) ?_
  refine lv_ifnonnull (tgt := 5) hx hb dX0_begin_1 (by decide) ?_
  refine lv_aload_n hx hb dX0_begin_5 rfl (lv_at hl 0 rfl) ?_
  refine va_get (D := (dC, dI)) (ci := 0) (v := .ref p_mounts) (C := RX0) (T := TX0) (N := 4) hx hb hts iwX0 hown hK hP 3 rfl rfl 0 (by decide) (hts (.fieldLink RX0 14 "SkyListeners$Now" "mounts" "LSkyListeners$Rows;") (by decide +kernel)) (fun _ h9 => h9) rfl dX0_begin_6 ?_
  refine lv_aload_n hx hb dX0_begin_9 rfl (lv_at hl 1 rfl) ?_
  refine va_get (D := (dC, dI)) (ci := 4) (v := .ref p_a1_dishes) (C := RX4) (T := TX4) (N := 4) hx hb hts iwX4 hown hK hP 0 rfl rfl 0 (by decide) (hts (.fieldLink RX0 29 "SkyListeners$Valley" "dishes" "LSkyListeners$Rows;") (by decide +kernel)) (fun _ h9 => h9) rfl dX0_begin_10 ?_
  obtain ⟨q13, hq13, hrun⟩ := bind_out hrun
  have hPc : va_P (dC, dI) vwCl [(p_a1_dishes, .inr (2, [.int d_a1_dishes_most, .ref p_a1_dishes_cells, .int d_a1_dishes_many])), (p_a1_dishes_cells, .inl (cI, 48, .inl d_a1_dishes_cells)), (p_mounts, .inr (2, [.int d_mounts_most, .ref p_mounts_cells, .int d_mounts_many])), (p_mounts_cells, .inl (cI, 48, .inl d_mounts_cells))] H := hP.sub [1, 2, 6, 7] rfl
  have hDc : va_D A [(p_a1_dishes, .inr (2, [.int d_a1_dishes_most, .ref p_a1_dishes_cells, .int d_a1_dishes_many])), (p_a1_dishes_cells, .inl (cI, 48, .inl d_a1_dishes_cells)), (p_mounts, .inr (2, [.int d_mounts_most, .ref p_mounts_cells, .int d_mounts_many])), (p_mounts_cells, .inl (cI, 48, .inl d_mounts_cells))] := hD.sub [1, 2, 6, 7] (by decide) rfl
  have hFc := va_free (wc := [(p_a1_dishes, .inr (2, [.int d_a1_dishes_most, .ref p_a1_dishes_cells, .int d_a1_dishes_many])), (p_a1_dishes_cells, .inl (cI, 48, .inl d_a1_dishes_cells)), (p_mounts, .inr (2, [.int d_mounts_most, .ref p_mounts_cells, .int d_mounts_many])), (p_mounts_cells, .inl (cI, 48, .inl d_mounts_cells))]) hD hS hA [1, 2, 6, 7] rfl
  refine va_callv (va_runV (As := [.ref p_a1_dishes]) (rest := []) ⟨hx, hb, hml, hown, hts⟩ (c_X2_copyFrom l dC dI cI cZ H.size p_a1_dishes p_a1_dishes_cells p_mounts_cells p_mounts d_a1_dishes_most d_a1_dishes_many d_a1_dishes_cells d_mounts_most d_mounts_many d_mounts_cells q13 hq13) (cwV 1 hts gX0_begin_X2_copyFrom rfl rfl rfl (by decide +kernel) ⟨Nat.le_of_ble_eq_true rfl, Nat.le_of_ble_eq_true rfl⟩) ⟨fun a U g mk q => ⟨q.1, PC.mv q.2⟩, va_recv hK hP (ci := 2) (q0 := 6) rfl rfl, fun U hU hW => ⟨rfl, PC.of hU hW hPc hK hDc hN⟩⟩ rfl rfl hl.1 rfl (lv_room (Nat.le_of_ble_eq_true rfl)) dX0_begin_13 ⟨Nat.zero_le _, Nat.zero_le _⟩) hS (fun q _ h => hFc q h) hFc (fun u t H1 locs ht hvm hw hB hz1 hk1 hS => ?_)
  obtain ⟨hP1, hD1⟩ := hB
  rw [ht] at hP1
  obtain ⟨hP, hD⟩ := va_join (wr := [(p_a1, .inr (4, [.ref p_a1_dishes, .ref p_a1_speakers, .ref p_a1_noises, .ref p_a1_askers])), (p_this, .inr (0, [.ref p_mounts, .ref p_lendings, .ref p_log, .ref p_undos])), (p_lendings, .inr (2, [.int d_lendings_most, .ref p_lendings_cells, .int d_lendings_many])), (p_log, .inr (2, [.int d_log_most, .ref p_log_cells, .int d_log_many])), (p_undos, .inr (2, [.int d_undos_most, .ref p_undos_cells, .int d_undos_many]))]) (w1 := [(p_a1_dishes, .inr (2, [.int d_a1_dishes_most, .ref p_a1_dishes_cells, .int d_a1_dishes_many])), (p_a1_dishes_cells, .inl (cI, 48, .inl d_a1_dishes_cells)), (p_mounts, .inr (2, [.int d_mounts_most, .ref p_mounts_cells, .int q13.1])), (p_mounts_cells, .inl (cI, 48, .inl q13.2))]) hP hD [1, 2, 6, 7] [0, 3, 4, 5, 8] rfl rfl (by decide) (by decide) hk1 hFc hP1 hD1
  have hP : va_P (dC, dI) vwCl [(p_a1, .inr (4, [.ref p_a1_dishes, .ref p_a1_speakers, .ref p_a1_noises, .ref p_a1_askers])), (p_a1_dishes, .inr (2, [.int d_a1_dishes_most, .ref p_a1_dishes_cells, .int d_a1_dishes_many])), (p_a1_dishes_cells, .inl (cI, 48, .inl d_a1_dishes_cells)), (p_this, .inr (0, [.ref p_mounts, .ref p_lendings, .ref p_log, .ref p_undos])), (p_lendings, .inr (2, [.int d_lendings_most, .ref p_lendings_cells, .int d_lendings_many])), (p_log, .inr (2, [.int d_log_most, .ref p_log_cells, .int d_log_many])), (p_mounts, .inr (2, [.int d_mounts_most, .ref p_mounts_cells, .int q13.1])), (p_mounts_cells, .inl (cI, 48, .inl q13.2)), (p_undos, .inr (2, [.int d_undos_most, .ref p_undos_cells, .int d_undos_many]))] H1 := hP.sub [0, 5, 6, 1, 2, 3, 7, 8, 4] rfl
  have hD : va_D A [(p_a1, .inr (4, [.ref p_a1_dishes, .ref p_a1_speakers, .ref p_a1_noises, .ref p_a1_askers])), (p_a1_dishes, .inr (2, [.int d_a1_dishes_most, .ref p_a1_dishes_cells, .int d_a1_dishes_many])), (p_a1_dishes_cells, .inl (cI, 48, .inl d_a1_dishes_cells)), (p_this, .inr (0, [.ref p_mounts, .ref p_lendings, .ref p_log, .ref p_undos])), (p_lendings, .inr (2, [.int d_lendings_most, .ref p_lendings_cells, .int d_lendings_many])), (p_log, .inr (2, [.int d_log_most, .ref p_log_cells, .int d_log_many])), (p_mounts, .inr (2, [.int d_mounts_most, .ref p_mounts_cells, .int q13.1])), (p_mounts_cells, .inl (cI, 48, .inl q13.2)), (p_undos, .inr (2, [.int d_undos_most, .ref p_undos_cells, .int d_undos_many]))] := hD.sub [0, 5, 6, 1, 2, 3, 7, 8, 4] (by decide) rfl
  clear hPc hDc hFc hk1 hz1 hP1 hD1 ht hvm
  generalize H1 = H at hP hS ⊢
  refine lv_aload_n hx hb dX0_begin_16 rfl (lv_at hl 0 rfl) ?_
  refine va_get (D := (dC, dI)) (ci := 0) (v := .ref p_lendings) (C := RX0) (T := TX0) (N := 4) hx hb hts iwX0 hown hK hP 3 rfl rfl 1 (by decide) (hts (.fieldLink RX0 20 "SkyListeners$Now" "lendings" "LSkyListeners$Rows;") (by decide +kernel)) (fun _ h9 => h9) rfl dX0_begin_17 ?_
  have hPc : va_P (dC, dI) vwCl [(p_lendings, .inr (2, [.int d_lendings_most, .ref p_lendings_cells, .int d_lendings_many]))] H := hP.sub [4] rfl
  have hDc : va_D A [(p_lendings, .inr (2, [.int d_lendings_most, .ref p_lendings_cells, .int d_lendings_many]))] := hD.sub [4] (by decide) rfl
  have hFc := va_free (wc := [(p_lendings, .inr (2, [.int d_lendings_most, .ref p_lendings_cells, .int d_lendings_many]))]) hD hS hA [4] rfl
  refine va_callv (va_runV (As := []) (rest := []) ⟨hx, hb, hml, hown, hts⟩ (c_X2_empty l dC dI cI cZ H.size p_lendings_cells p_lendings d_lendings_most d_lendings_many (f_X2_empty d_lendings_many) rfl) (cwV 0 hts gX0_begin_X2_empty rfl rfl rfl (by decide +kernel) ⟨Nat.le_of_ble_eq_true rfl, Nat.le_of_ble_eq_true rfl⟩) ⟨fun a U g mk q => ⟨q.1, PC.mv q.2⟩, va_recv hK hP (ci := 2) (q0 := 4) rfl rfl, fun U hU hW => ⟨rfl, PC.of hU hW hPc hK hDc hN⟩⟩ rfl rfl hl.1 rfl (lv_room (Nat.le_of_ble_eq_true rfl)) dX0_begin_20 ⟨Nat.zero_le _, Nat.zero_le _⟩) hS (fun q _ h => hFc q h) hFc (fun u t H1 locs ht hvm hw hB hz1 hk1 hS => ?_)
  obtain ⟨hP1, hD1⟩ := hB
  rw [ht] at hP1
  obtain ⟨hP, hD⟩ := va_join (wr := [(p_a1, .inr (4, [.ref p_a1_dishes, .ref p_a1_speakers, .ref p_a1_noises, .ref p_a1_askers])), (p_a1_dishes, .inr (2, [.int d_a1_dishes_most, .ref p_a1_dishes_cells, .int d_a1_dishes_many])), (p_a1_dishes_cells, .inl (cI, 48, .inl d_a1_dishes_cells)), (p_this, .inr (0, [.ref p_mounts, .ref p_lendings, .ref p_log, .ref p_undos])), (p_log, .inr (2, [.int d_log_most, .ref p_log_cells, .int d_log_many])), (p_mounts, .inr (2, [.int d_mounts_most, .ref p_mounts_cells, .int q13.1])), (p_mounts_cells, .inl (cI, 48, .inl q13.2)), (p_undos, .inr (2, [.int d_undos_most, .ref p_undos_cells, .int d_undos_many]))]) (w1 := [(p_lendings, .inr (2, [.int d_lendings_most, .ref p_lendings_cells, .int (f_X2_empty d_lendings_many)]))]) hP hD [4] [0, 1, 2, 3, 5, 6, 7, 8] rfl rfl (by decide) (by decide) hk1 hFc hP1 hD1
  have hP : va_P (dC, dI) vwCl [(p_a1, .inr (4, [.ref p_a1_dishes, .ref p_a1_speakers, .ref p_a1_noises, .ref p_a1_askers])), (p_a1_dishes, .inr (2, [.int d_a1_dishes_most, .ref p_a1_dishes_cells, .int d_a1_dishes_many])), (p_a1_dishes_cells, .inl (cI, 48, .inl d_a1_dishes_cells)), (p_this, .inr (0, [.ref p_mounts, .ref p_lendings, .ref p_log, .ref p_undos])), (p_lendings, .inr (2, [.int d_lendings_most, .ref p_lendings_cells, .int (f_X2_empty d_lendings_many)])), (p_log, .inr (2, [.int d_log_most, .ref p_log_cells, .int d_log_many])), (p_mounts, .inr (2, [.int d_mounts_most, .ref p_mounts_cells, .int q13.1])), (p_mounts_cells, .inl (cI, 48, .inl q13.2)), (p_undos, .inr (2, [.int d_undos_most, .ref p_undos_cells, .int d_undos_many]))] H1 := hP.sub [0, 1, 2, 3, 8, 4, 5, 6, 7] rfl
  have hD : va_D A [(p_a1, .inr (4, [.ref p_a1_dishes, .ref p_a1_speakers, .ref p_a1_noises, .ref p_a1_askers])), (p_a1_dishes, .inr (2, [.int d_a1_dishes_most, .ref p_a1_dishes_cells, .int d_a1_dishes_many])), (p_a1_dishes_cells, .inl (cI, 48, .inl d_a1_dishes_cells)), (p_this, .inr (0, [.ref p_mounts, .ref p_lendings, .ref p_log, .ref p_undos])), (p_lendings, .inr (2, [.int d_lendings_most, .ref p_lendings_cells, .int (f_X2_empty d_lendings_many)])), (p_log, .inr (2, [.int d_log_most, .ref p_log_cells, .int d_log_many])), (p_mounts, .inr (2, [.int d_mounts_most, .ref p_mounts_cells, .int q13.1])), (p_mounts_cells, .inl (cI, 48, .inl q13.2)), (p_undos, .inr (2, [.int d_undos_most, .ref p_undos_cells, .int d_undos_many]))] := hD.sub [0, 1, 2, 3, 8, 4, 5, 6, 7] (by decide) rfl
  clear hPc hDc hFc hk1 hz1 hP1 hD1 ht hvm
  generalize H1 = H at hP hS ⊢
  refine lv_aload_n hx hb dX0_begin_23 rfl (lv_at hl 0 rfl) ?_
  refine va_get (D := (dC, dI)) (ci := 0) (v := .ref p_log) (C := RX0) (T := TX0) (N := 4) hx hb hts iwX0 hown hK hP 3 rfl rfl 2 (by decide) (hts (.fieldLink RX0 23 "SkyListeners$Now" "log" "LSkyListeners$Rows;") (by decide +kernel)) (fun _ h9 => h9) rfl dX0_begin_24 ?_
  have hPc : va_P (dC, dI) vwCl [(p_log, .inr (2, [.int d_log_most, .ref p_log_cells, .int d_log_many]))] H := hP.sub [5] rfl
  have hDc : va_D A [(p_log, .inr (2, [.int d_log_most, .ref p_log_cells, .int d_log_many]))] := hD.sub [5] (by decide) rfl
  have hFc := va_free (wc := [(p_log, .inr (2, [.int d_log_most, .ref p_log_cells, .int d_log_many]))]) hD hS hA [5] rfl
  refine va_callv (va_runV (As := []) (rest := []) ⟨hx, hb, hml, hown, hts⟩ (c_X2_empty l dC dI cI cZ H.size p_log_cells p_log d_log_most d_log_many (f_X2_empty d_log_many) rfl) (cwV 0 hts gX0_begin_X2_empty rfl rfl rfl (by decide +kernel) ⟨Nat.le_of_ble_eq_true rfl, Nat.le_of_ble_eq_true rfl⟩) ⟨fun a U g mk q => ⟨q.1, PC.mv q.2⟩, va_recv hK hP (ci := 2) (q0 := 5) rfl rfl, fun U hU hW => ⟨rfl, PC.of hU hW hPc hK hDc hN⟩⟩ rfl rfl hl.1 rfl (lv_room (Nat.le_of_ble_eq_true rfl)) dX0_begin_27 ⟨Nat.zero_le _, Nat.zero_le _⟩) hS (fun q _ h => hFc q h) hFc (fun u t H1 locs ht hvm hw hB hz1 hk1 hS => ?_)
  obtain ⟨hP1, hD1⟩ := hB
  rw [ht] at hP1
  obtain ⟨hP, hD⟩ := va_join (wr := [(p_a1, .inr (4, [.ref p_a1_dishes, .ref p_a1_speakers, .ref p_a1_noises, .ref p_a1_askers])), (p_a1_dishes, .inr (2, [.int d_a1_dishes_most, .ref p_a1_dishes_cells, .int d_a1_dishes_many])), (p_a1_dishes_cells, .inl (cI, 48, .inl d_a1_dishes_cells)), (p_this, .inr (0, [.ref p_mounts, .ref p_lendings, .ref p_log, .ref p_undos])), (p_lendings, .inr (2, [.int d_lendings_most, .ref p_lendings_cells, .int (f_X2_empty d_lendings_many)])), (p_mounts, .inr (2, [.int d_mounts_most, .ref p_mounts_cells, .int q13.1])), (p_mounts_cells, .inl (cI, 48, .inl q13.2)), (p_undos, .inr (2, [.int d_undos_most, .ref p_undos_cells, .int d_undos_many]))]) (w1 := [(p_log, .inr (2, [.int d_log_most, .ref p_log_cells, .int (f_X2_empty d_log_many)]))]) hP hD [5] [0, 1, 2, 3, 4, 6, 7, 8] rfl rfl (by decide) (by decide) hk1 hFc hP1 hD1
  have hP : va_P (dC, dI) vwCl [(p_a1, .inr (4, [.ref p_a1_dishes, .ref p_a1_speakers, .ref p_a1_noises, .ref p_a1_askers])), (p_a1_dishes, .inr (2, [.int d_a1_dishes_most, .ref p_a1_dishes_cells, .int d_a1_dishes_many])), (p_a1_dishes_cells, .inl (cI, 48, .inl d_a1_dishes_cells)), (p_this, .inr (0, [.ref p_mounts, .ref p_lendings, .ref p_log, .ref p_undos])), (p_lendings, .inr (2, [.int d_lendings_most, .ref p_lendings_cells, .int (f_X2_empty d_lendings_many)])), (p_log, .inr (2, [.int d_log_most, .ref p_log_cells, .int (f_X2_empty d_log_many)])), (p_mounts, .inr (2, [.int d_mounts_most, .ref p_mounts_cells, .int q13.1])), (p_mounts_cells, .inl (cI, 48, .inl q13.2)), (p_undos, .inr (2, [.int d_undos_most, .ref p_undos_cells, .int d_undos_many]))] H1 := hP.sub [0, 1, 2, 3, 4, 8, 5, 6, 7] rfl
  have hD : va_D A [(p_a1, .inr (4, [.ref p_a1_dishes, .ref p_a1_speakers, .ref p_a1_noises, .ref p_a1_askers])), (p_a1_dishes, .inr (2, [.int d_a1_dishes_most, .ref p_a1_dishes_cells, .int d_a1_dishes_many])), (p_a1_dishes_cells, .inl (cI, 48, .inl d_a1_dishes_cells)), (p_this, .inr (0, [.ref p_mounts, .ref p_lendings, .ref p_log, .ref p_undos])), (p_lendings, .inr (2, [.int d_lendings_most, .ref p_lendings_cells, .int (f_X2_empty d_lendings_many)])), (p_log, .inr (2, [.int d_log_most, .ref p_log_cells, .int (f_X2_empty d_log_many)])), (p_mounts, .inr (2, [.int d_mounts_most, .ref p_mounts_cells, .int q13.1])), (p_mounts_cells, .inl (cI, 48, .inl q13.2)), (p_undos, .inr (2, [.int d_undos_most, .ref p_undos_cells, .int d_undos_many]))] := hD.sub [0, 1, 2, 3, 4, 8, 5, 6, 7] (by decide) rfl
  clear hPc hDc hFc hk1 hz1 hP1 hD1 ht hvm
  generalize H1 = H at hP hS ⊢
  refine lv_aload_n hx hb dX0_begin_30 rfl (lv_at hl 0 rfl) ?_
  refine va_get (D := (dC, dI)) (ci := 0) (v := .ref p_undos) (C := RX0) (T := TX0) (N := 4) hx hb hts iwX0 hown hK hP 3 rfl rfl 3 (by decide) (hts (.fieldLink RX0 26 "SkyListeners$Now" "undos" "LSkyListeners$Rows;") (by decide +kernel)) (fun _ h9 => h9) rfl dX0_begin_31 ?_
  have hPc : va_P (dC, dI) vwCl [(p_undos, .inr (2, [.int d_undos_most, .ref p_undos_cells, .int d_undos_many]))] H := hP.sub [8] rfl
  have hDc : va_D A [(p_undos, .inr (2, [.int d_undos_most, .ref p_undos_cells, .int d_undos_many]))] := hD.sub [8] (by decide) rfl
  have hFc := va_free (wc := [(p_undos, .inr (2, [.int d_undos_most, .ref p_undos_cells, .int d_undos_many]))]) hD hS hA [8] rfl
  refine va_callv (va_runV (As := []) (rest := []) ⟨hx, hb, hml, hown, hts⟩ (c_X2_empty l dC dI cI cZ H.size p_undos_cells p_undos d_undos_most d_undos_many (f_X2_empty d_undos_many) rfl) (cwV 0 hts gX0_begin_X2_empty rfl rfl rfl (by decide +kernel) ⟨Nat.le_of_ble_eq_true rfl, Nat.le_of_ble_eq_true rfl⟩) ⟨fun a U g mk q => ⟨q.1, PC.mv q.2⟩, va_recv hK hP (ci := 2) (q0 := 8) rfl rfl, fun U hU hW => ⟨rfl, PC.of hU hW hPc hK hDc hN⟩⟩ rfl rfl hl.1 rfl (lv_room (Nat.le_of_ble_eq_true rfl)) dX0_begin_34 ⟨Nat.zero_le _, Nat.zero_le _⟩) hS (fun q _ h => hFc q h) hFc (fun u t H1 locs ht hvm hw hB hz1 hk1 hS => ?_)
  obtain ⟨hP1, hD1⟩ := hB
  rw [ht] at hP1
  obtain ⟨hP, hD⟩ := va_join (wr := [(p_a1, .inr (4, [.ref p_a1_dishes, .ref p_a1_speakers, .ref p_a1_noises, .ref p_a1_askers])), (p_a1_dishes, .inr (2, [.int d_a1_dishes_most, .ref p_a1_dishes_cells, .int d_a1_dishes_many])), (p_a1_dishes_cells, .inl (cI, 48, .inl d_a1_dishes_cells)), (p_this, .inr (0, [.ref p_mounts, .ref p_lendings, .ref p_log, .ref p_undos])), (p_lendings, .inr (2, [.int d_lendings_most, .ref p_lendings_cells, .int (f_X2_empty d_lendings_many)])), (p_log, .inr (2, [.int d_log_most, .ref p_log_cells, .int (f_X2_empty d_log_many)])), (p_mounts, .inr (2, [.int d_mounts_most, .ref p_mounts_cells, .int q13.1])), (p_mounts_cells, .inl (cI, 48, .inl q13.2))]) (w1 := [(p_undos, .inr (2, [.int d_undos_most, .ref p_undos_cells, .int (f_X2_empty d_undos_many)]))]) hP hD [8] [0, 1, 2, 3, 4, 5, 6, 7] rfl rfl (by decide) (by decide) hk1 hFc hP1 hD1
  have hP : va_P (dC, dI) vwCl [(p_a1, .inr (4, [.ref p_a1_dishes, .ref p_a1_speakers, .ref p_a1_noises, .ref p_a1_askers])), (p_a1_dishes, .inr (2, [.int d_a1_dishes_most, .ref p_a1_dishes_cells, .int d_a1_dishes_many])), (p_a1_dishes_cells, .inl (cI, 48, .inl d_a1_dishes_cells)), (p_this, .inr (0, [.ref p_mounts, .ref p_lendings, .ref p_log, .ref p_undos])), (p_lendings, .inr (2, [.int d_lendings_most, .ref p_lendings_cells, .int (f_X2_empty d_lendings_many)])), (p_log, .inr (2, [.int d_log_most, .ref p_log_cells, .int (f_X2_empty d_log_many)])), (p_mounts, .inr (2, [.int d_mounts_most, .ref p_mounts_cells, .int q13.1])), (p_mounts_cells, .inl (cI, 48, .inl q13.2)), (p_undos, .inr (2, [.int d_undos_most, .ref p_undos_cells, .int (f_X2_empty d_undos_many)]))] H1 := hP.sub [0, 1, 2, 3, 4, 5, 6, 7, 8] rfl
  have hD : va_D A [(p_a1, .inr (4, [.ref p_a1_dishes, .ref p_a1_speakers, .ref p_a1_noises, .ref p_a1_askers])), (p_a1_dishes, .inr (2, [.int d_a1_dishes_most, .ref p_a1_dishes_cells, .int d_a1_dishes_many])), (p_a1_dishes_cells, .inl (cI, 48, .inl d_a1_dishes_cells)), (p_this, .inr (0, [.ref p_mounts, .ref p_lendings, .ref p_log, .ref p_undos])), (p_lendings, .inr (2, [.int d_lendings_most, .ref p_lendings_cells, .int (f_X2_empty d_lendings_many)])), (p_log, .inr (2, [.int d_log_most, .ref p_log_cells, .int (f_X2_empty d_log_many)])), (p_mounts, .inr (2, [.int d_mounts_most, .ref p_mounts_cells, .int q13.1])), (p_mounts_cells, .inl (cI, 48, .inl q13.2)), (p_undos, .inr (2, [.int d_undos_most, .ref p_undos_cells, .int (f_X2_empty d_undos_many)]))] := hD.sub [0, 1, 2, 3, 4, 5, 6, 7, 8] (by decide) rfl
  clear hPc hDc hFc hk1 hz1 hP1 hD1 ht hvm
  generalize H1 = H at hP hS ⊢
  have hrun := Option.some.inj hrun
  subst hrun
  rw [hQ]
  exact W.vret hx hb hr (fun t ht hW => ⟨⟨(), rfl, trivial, by rw [ht]; exact hP, hD⟩, hS.F ht⟩) hS.2.2 dX0_begin_37
-- SkyListeners$Now.copyFrom
def f_X0_copyFrom (d_a1_lendings_many : Int32) (d_a1_lendings_cells : Nat → Int32) (d_a1_log_many : Int32) (d_a1_log_cells : Nat → Int32) (d_a1_mounts_many : Int32) (d_a1_mounts_cells : Nat → Int32) (d_a1_undos_many : Int32) (d_a1_undos_cells : Nat → Int32) (d_lendings_most : Int32) (d_lendings_many : Int32) (d_lendings_cells : Nat → Int32) (d_log_most : Int32) (d_log_many : Int32) (d_log_cells : Nat → Int32) (d_mounts_most : Int32) (d_mounts_many : Int32) (d_mounts_cells : Nat → Int32) (d_undos_most : Int32) (d_undos_many : Int32) (d_undos_cells : Nat → Int32) : Option (Int32 × (Nat → Int32) × Int32 × (Nat → Int32) × Int32 × (Nat → Int32) × Int32 × (Nat → Int32)) := ((f_X2_copyFrom d_a1_mounts_many d_a1_mounts_cells d_mounts_most d_mounts_many d_mounts_cells).bind fun q13 => ((f_X2_copyFrom d_a1_lendings_many d_a1_lendings_cells d_lendings_most d_lendings_many d_lendings_cells).bind fun q24 => ((f_X2_copyFrom d_a1_log_many d_a1_log_cells d_log_most d_log_many d_log_cells).bind fun q35 => ((f_X2_copyFrom d_a1_undos_many d_a1_undos_cells d_undos_most d_undos_many d_undos_cells).bind fun q46 => (some (q24.1, q24.2, q35.1, q35.2, q13.1, q13.2, q46.1, q46.2))))))
set_option maxHeartbeats 4000000 in
set_option maxRecDepth 100000 in
theorem c_X0_copyFrom (l : Launch) (dC : Nat → ClassId) (dI : Nat → Nat → Nat) (cI cZ : ClassId) (sz : Nat) (p_a1 p_a1_lendings p_a1_lendings_cells p_a1_log p_a1_log_cells p_a1_mounts p_a1_mounts_cells p_a1_undos p_a1_undos_cells p_lendings p_lendings_cells p_log p_log_cells p_mounts p_mounts_cells p_this p_undos p_undos_cells : Nat) (d_a1_lendings_most : Int32) (d_a1_lendings_many : Int32) (d_a1_lendings_cells : Nat → Int32) (d_a1_log_most : Int32) (d_a1_log_many : Int32) (d_a1_log_cells : Nat → Int32) (d_a1_mounts_most : Int32) (d_a1_mounts_many : Int32) (d_a1_mounts_cells : Nat → Int32) (d_a1_undos_most : Int32) (d_a1_undos_many : Int32) (d_a1_undos_cells : Nat → Int32) (d_lendings_most : Int32) (d_lendings_many : Int32) (d_lendings_cells : Nat → Int32) (d_log_most : Int32) (d_log_many : Int32) (d_log_cells : Nat → Int32) (d_mounts_most : Int32) (d_mounts_many : Int32) (d_mounts_cells : Nat → Int32) (d_undos_most : Int32) (d_undos_many : Int32) (d_undos_cells : Nat → Int32) (out : Int32 × (Nat → Int32) × Int32 × (Nat → Int32) × Int32 × (Nat → Int32) × Int32 × (Nat → Int32)) (hrun : f_X0_copyFrom d_a1_lendings_many d_a1_lendings_cells d_a1_log_many d_a1_log_cells d_a1_mounts_many d_a1_mounts_cells d_a1_undos_many d_a1_undos_cells d_lendings_most d_lendings_many d_lendings_cells d_log_most d_log_many d_log_cells d_mounts_most d_mounts_many d_mounts_cells d_undos_most d_undos_many d_undos_cells = some out) : Met l yX0_copyFrom wsX0_copyFrom ({ frames := 2, cells := 0, slots := 0, locals := 44 } : Room) (va_Pc [.ref p_this, .ref p_a1] (PC dC dI cI cZ sz ([(p_a1, .inr (0, [.ref p_a1_mounts, .ref p_a1_lendings, .ref p_a1_log, .ref p_a1_undos])), (p_a1_lendings, .inr (2, [.int d_a1_lendings_most, .ref p_a1_lendings_cells, .int d_a1_lendings_many])), (p_a1_lendings_cells, .inl (cI, 48, .inl d_a1_lendings_cells)), (p_a1_log, .inr (2, [.int d_a1_log_most, .ref p_a1_log_cells, .int d_a1_log_many])), (p_a1_log_cells, .inl (cI, 48, .inl d_a1_log_cells)), (p_a1_mounts, .inr (2, [.int d_a1_mounts_most, .ref p_a1_mounts_cells, .int d_a1_mounts_many])), (p_a1_mounts_cells, .inl (cI, 48, .inl d_a1_mounts_cells)), (p_a1_undos, .inr (2, [.int d_a1_undos_most, .ref p_a1_undos_cells, .int d_a1_undos_many])), (p_a1_undos_cells, .inl (cI, 48, .inl d_a1_undos_cells)), (p_this, .inr (0, [.ref p_mounts, .ref p_lendings, .ref p_log, .ref p_undos])), (p_lendings, .inr (2, [.int d_lendings_most, .ref p_lendings_cells, .int d_lendings_many])), (p_lendings_cells, .inl (cI, 48, .inl d_lendings_cells)), (p_log, .inr (2, [.int d_log_most, .ref p_log_cells, .int d_log_many])), (p_log_cells, .inl (cI, 48, .inl d_log_cells)), (p_mounts, .inr (2, [.int d_mounts_most, .ref p_mounts_cells, .int d_mounts_many])), (p_mounts_cells, .inl (cI, 48, .inl d_mounts_cells)), (p_undos, .inr (2, [.int d_undos_most, .ref p_undos_cells, .int d_undos_many])), (p_undos_cells, .inl (cI, 48, .inl d_undos_cells))] : va_W))) (va_Qv (fun (_ : Unit) => True) (fun _ t => va_P (dC, dI) vwCl [(p_a1, .inr (0, [.ref p_a1_mounts, .ref p_a1_lendings, .ref p_a1_log, .ref p_a1_undos])), (p_a1_lendings, .inr (2, [.int d_a1_lendings_most, .ref p_a1_lendings_cells, .int d_a1_lendings_many])), (p_a1_lendings_cells, .inl (cI, 48, .inl d_a1_lendings_cells)), (p_a1_log, .inr (2, [.int d_a1_log_most, .ref p_a1_log_cells, .int d_a1_log_many])), (p_a1_log_cells, .inl (cI, 48, .inl d_a1_log_cells)), (p_a1_mounts, .inr (2, [.int d_a1_mounts_most, .ref p_a1_mounts_cells, .int d_a1_mounts_many])), (p_a1_mounts_cells, .inl (cI, 48, .inl d_a1_mounts_cells)), (p_a1_undos, .inr (2, [.int d_a1_undos_most, .ref p_a1_undos_cells, .int d_a1_undos_many])), (p_a1_undos_cells, .inl (cI, 48, .inl d_a1_undos_cells)), (p_this, .inr (0, [.ref p_mounts, .ref p_lendings, .ref p_log, .ref p_undos])), (p_lendings, .inr (2, [.int d_lendings_most, .ref p_lendings_cells, .int out.1])), (p_lendings_cells, .inl (cI, 48, .inl out.2.1)), (p_log, .inr (2, [.int d_log_most, .ref p_log_cells, .int out.2.2.1])), (p_log_cells, .inl (cI, 48, .inl out.2.2.2.1)), (p_mounts, .inr (2, [.int d_mounts_most, .ref p_mounts_cells, .int out.2.2.2.2.1])), (p_mounts_cells, .inl (cI, 48, .inl out.2.2.2.2.2.1)), (p_undos, .inr (2, [.int d_undos_most, .ref p_undos_cells, .int out.2.2.2.2.2.2.1])), (p_undos_cells, .inl (cI, 48, .inl out.2.2.2.2.2.2.2))] t.heap ∧ va_D (va_A ([(p_a1, .inr (0, [.ref p_a1_mounts, .ref p_a1_lendings, .ref p_a1_log, .ref p_a1_undos])), (p_a1_lendings, .inr (2, [.int d_a1_lendings_most, .ref p_a1_lendings_cells, .int d_a1_lendings_many])), (p_a1_lendings_cells, .inl (cI, 48, .inl d_a1_lendings_cells)), (p_a1_log, .inr (2, [.int d_a1_log_most, .ref p_a1_log_cells, .int d_a1_log_many])), (p_a1_log_cells, .inl (cI, 48, .inl d_a1_log_cells)), (p_a1_mounts, .inr (2, [.int d_a1_mounts_most, .ref p_a1_mounts_cells, .int d_a1_mounts_many])), (p_a1_mounts_cells, .inl (cI, 48, .inl d_a1_mounts_cells)), (p_a1_undos, .inr (2, [.int d_a1_undos_most, .ref p_a1_undos_cells, .int d_a1_undos_many])), (p_a1_undos_cells, .inl (cI, 48, .inl d_a1_undos_cells)), (p_this, .inr (0, [.ref p_mounts, .ref p_lendings, .ref p_log, .ref p_undos])), (p_lendings, .inr (2, [.int d_lendings_most, .ref p_lendings_cells, .int d_lendings_many])), (p_lendings_cells, .inl (cI, 48, .inl d_lendings_cells)), (p_log, .inr (2, [.int d_log_most, .ref p_log_cells, .int d_log_many])), (p_log_cells, .inl (cI, 48, .inl d_log_cells)), (p_mounts, .inr (2, [.int d_mounts_most, .ref p_mounts_cells, .int d_mounts_many])), (p_mounts_cells, .inl (cI, 48, .inl d_mounts_cells)), (p_undos, .inr (2, [.int d_undos_most, .ref p_undos_cells, .int d_undos_many])), (p_undos_cells, .inl (cI, 48, .inl d_undos_cells))] : va_W) sz) [(p_a1, .inr (0, [.ref p_a1_mounts, .ref p_a1_lendings, .ref p_a1_log, .ref p_a1_undos])), (p_a1_lendings, .inr (2, [.int d_a1_lendings_most, .ref p_a1_lendings_cells, .int d_a1_lendings_many])), (p_a1_lendings_cells, .inl (cI, 48, .inl d_a1_lendings_cells)), (p_a1_log, .inr (2, [.int d_a1_log_most, .ref p_a1_log_cells, .int d_a1_log_many])), (p_a1_log_cells, .inl (cI, 48, .inl d_a1_log_cells)), (p_a1_mounts, .inr (2, [.int d_a1_mounts_most, .ref p_a1_mounts_cells, .int d_a1_mounts_many])), (p_a1_mounts_cells, .inl (cI, 48, .inl d_a1_mounts_cells)), (p_a1_undos, .inr (2, [.int d_a1_undos_most, .ref p_a1_undos_cells, .int d_a1_undos_many])), (p_a1_undos_cells, .inl (cI, 48, .inl d_a1_undos_cells)), (p_this, .inr (0, [.ref p_mounts, .ref p_lendings, .ref p_log, .ref p_undos])), (p_lendings, .inr (2, [.int d_lendings_most, .ref p_lendings_cells, .int out.1])), (p_lendings_cells, .inl (cI, 48, .inl out.2.1)), (p_log, .inr (2, [.int d_log_most, .ref p_log_cells, .int out.2.2.1])), (p_log_cells, .inl (cI, 48, .inl out.2.2.2.1)), (p_mounts, .inr (2, [.int d_mounts_most, .ref p_mounts_cells, .int out.2.2.2.2.1])), (p_mounts_cells, .inl (cI, 48, .inl out.2.2.2.2.2.1)), (p_undos, .inr (2, [.int d_undos_most, .ref p_undos_cells, .int out.2.2.2.2.2.2.1])), (p_undos_cells, .inl (cI, 48, .inl out.2.2.2.2.2.2.2))]) (va_A ([(p_a1, .inr (0, [.ref p_a1_mounts, .ref p_a1_lendings, .ref p_a1_log, .ref p_a1_undos])), (p_a1_lendings, .inr (2, [.int d_a1_lendings_most, .ref p_a1_lendings_cells, .int d_a1_lendings_many])), (p_a1_lendings_cells, .inl (cI, 48, .inl d_a1_lendings_cells)), (p_a1_log, .inr (2, [.int d_a1_log_most, .ref p_a1_log_cells, .int d_a1_log_many])), (p_a1_log_cells, .inl (cI, 48, .inl d_a1_log_cells)), (p_a1_mounts, .inr (2, [.int d_a1_mounts_most, .ref p_a1_mounts_cells, .int d_a1_mounts_many])), (p_a1_mounts_cells, .inl (cI, 48, .inl d_a1_mounts_cells)), (p_a1_undos, .inr (2, [.int d_a1_undos_most, .ref p_a1_undos_cells, .int d_a1_undos_many])), (p_a1_undos_cells, .inl (cI, 48, .inl d_a1_undos_cells)), (p_this, .inr (0, [.ref p_mounts, .ref p_lendings, .ref p_log, .ref p_undos])), (p_lendings, .inr (2, [.int d_lendings_most, .ref p_lendings_cells, .int d_lendings_many])), (p_lendings_cells, .inl (cI, 48, .inl d_lendings_cells)), (p_log, .inr (2, [.int d_log_most, .ref p_log_cells, .int d_log_many])), (p_log_cells, .inl (cI, 48, .inl d_log_cells)), (p_mounts, .inr (2, [.int d_mounts_most, .ref p_mounts_cells, .int d_mounts_many])), (p_mounts_cells, .inl (cI, 48, .inl d_mounts_cells)), (p_undos, .inr (2, [.int d_undos_most, .ref p_undos_cells, .int d_undos_many])), (p_undos_cells, .inl (cI, 48, .inl d_undos_cells))] : va_W) sz)) 0 0 (va_A ([(p_a1, .inr (0, [.ref p_a1_mounts, .ref p_a1_lendings, .ref p_a1_log, .ref p_a1_undos])), (p_a1_lendings, .inr (2, [.int d_a1_lendings_most, .ref p_a1_lendings_cells, .int d_a1_lendings_many])), (p_a1_lendings_cells, .inl (cI, 48, .inl d_a1_lendings_cells)), (p_a1_log, .inr (2, [.int d_a1_log_most, .ref p_a1_log_cells, .int d_a1_log_many])), (p_a1_log_cells, .inl (cI, 48, .inl d_a1_log_cells)), (p_a1_mounts, .inr (2, [.int d_a1_mounts_most, .ref p_a1_mounts_cells, .int d_a1_mounts_many])), (p_a1_mounts_cells, .inl (cI, 48, .inl d_a1_mounts_cells)), (p_a1_undos, .inr (2, [.int d_a1_undos_most, .ref p_a1_undos_cells, .int d_a1_undos_many])), (p_a1_undos_cells, .inl (cI, 48, .inl d_a1_undos_cells)), (p_this, .inr (0, [.ref p_mounts, .ref p_lendings, .ref p_log, .ref p_undos])), (p_lendings, .inr (2, [.int d_lendings_most, .ref p_lendings_cells, .int d_lendings_many])), (p_lendings_cells, .inl (cI, 48, .inl d_lendings_cells)), (p_log, .inr (2, [.int d_log_most, .ref p_log_cells, .int d_log_many])), (p_log_cells, .inl (cI, 48, .inl d_log_cells)), (p_mounts, .inr (2, [.int d_mounts_most, .ref p_mounts_cells, .int d_mounts_many])), (p_mounts_cells, .inl (cI, 48, .inl d_mounts_cells)), (p_undos, .inr (2, [.int d_undos_most, .ref p_undos_cells, .int d_undos_many])), (p_undos_cells, .inl (cI, 48, .inl d_undos_cells))] : va_W) sz) := by
  refine Met.ofW (cc := cX0_copyFrom) (maxL := 2) (ret := none) (by decide) rfl ?_
  intro p e s m args below meth c s₁ B hml hv
  obtain ⟨rfl, hsz, hP, hK, hD0, hN⟩ := hv
  have hx := B.exec
  have hb := B.bytes
  have hr := B.returns
  have hts := atoms_spec (ws := wsX0_copyFrom) B.pre
  have hown : s.vm.findClass RX0 = some m.cls := findClass_of_methodNamed B.named
  have hlocks := B.notSynchronized
  subst hsz
  have hD := hD0.self (sz := s.heap.size)
  generalize hAe : va_A ([(p_a1, .inr (0, [.ref p_a1_mounts, .ref p_a1_lendings, .ref p_a1_log, .ref p_a1_undos])), (p_a1_lendings, .inr (2, [.int d_a1_lendings_most, .ref p_a1_lendings_cells, .int d_a1_lendings_many])), (p_a1_lendings_cells, .inl (cI, 48, .inl d_a1_lendings_cells)), (p_a1_log, .inr (2, [.int d_a1_log_most, .ref p_a1_log_cells, .int d_a1_log_many])), (p_a1_log_cells, .inl (cI, 48, .inl d_a1_log_cells)), (p_a1_mounts, .inr (2, [.int d_a1_mounts_most, .ref p_a1_mounts_cells, .int d_a1_mounts_many])), (p_a1_mounts_cells, .inl (cI, 48, .inl d_a1_mounts_cells)), (p_a1_undos, .inr (2, [.int d_a1_undos_most, .ref p_a1_undos_cells, .int d_a1_undos_many])), (p_a1_undos_cells, .inl (cI, 48, .inl d_a1_undos_cells)), (p_this, .inr (0, [.ref p_mounts, .ref p_lendings, .ref p_log, .ref p_undos])), (p_lendings, .inr (2, [.int d_lendings_most, .ref p_lendings_cells, .int d_lendings_many])), (p_lendings_cells, .inl (cI, 48, .inl d_lendings_cells)), (p_log, .inr (2, [.int d_log_most, .ref p_log_cells, .int d_log_many])), (p_log_cells, .inl (cI, 48, .inl d_log_cells)), (p_mounts, .inr (2, [.int d_mounts_most, .ref p_mounts_cells, .int d_mounts_many])), (p_mounts_cells, .inl (cI, 48, .inl d_mounts_cells)), (p_undos, .inr (2, [.int d_undos_most, .ref p_undos_cells, .int d_undos_many])), (p_undos_cells, .inl (cI, 48, .inl d_undos_cells))] : va_W) s.heap.size = A at hD ⊢
  have hA : ∀ q : Nat, s.heap.size ≤ q → A q := fun q h => by rw [← hAe]; exact Or.inr h
  have hS : va_S A s.heap s.heap [] := va_S.rf
  refine W_abs (fun Q hQ => ?_)
  have hl := lv_entry ([.ref p_this, .ref p_a1]) (n := 2) (Nat.le_of_ble_eq_true rfl)
  rw [lg_entry_eq]
  generalize (lg_sl ([.ref p_this, .ref p_a1]) ++ List.replicate (2 - (lg_sl ([.ref p_this, .ref p_a1])).length) Slot.unset).toArray = ls at hl ⊢
  have hl : lv_has ls 2 [(0, .ref p_this), (1, .ref p_a1)] := hl
  rw [f_X0_copyFrom] at hrun
  refine W_start (ws := [(p_a1, .inr (0, [.ref p_a1_mounts, .ref p_a1_lendings, .ref p_a1_log, .ref p_a1_undos])), (p_a1_lendings, .inr (2, [.int d_a1_lendings_most, .ref p_a1_lendings_cells, .int d_a1_lendings_many])), (p_a1_lendings_cells, .inl (cI, 48, .inl d_a1_lendings_cells)), (p_a1_log, .inr (2, [.int d_a1_log_most, .ref p_a1_log_cells, .int d_a1_log_many])), (p_a1_log_cells, .inl (cI, 48, .inl d_a1_log_cells)), (p_a1_mounts, .inr (2, [.int d_a1_mounts_most, .ref p_a1_mounts_cells, .int d_a1_mounts_many])), (p_a1_mounts_cells, .inl (cI, 48, .inl d_a1_mounts_cells)), (p_a1_undos, .inr (2, [.int d_a1_undos_most, .ref p_a1_undos_cells, .int d_a1_undos_many])), (p_a1_undos_cells, .inl (cI, 48, .inl d_a1_undos_cells)), (p_this, .inr (0, [.ref p_mounts, .ref p_lendings, .ref p_log, .ref p_undos])), (p_lendings, .inr (2, [.int d_lendings_most, .ref p_lendings_cells, .int d_lendings_many])), (p_lendings_cells, .inl (cI, 48, .inl d_lendings_cells)), (p_log, .inr (2, [.int d_log_most, .ref p_log_cells, .int d_log_many])), (p_log_cells, .inl (cI, 48, .inl d_log_cells)), (p_mounts, .inr (2, [.int d_mounts_most, .ref p_mounts_cells, .int d_mounts_many])), (p_mounts_cells, .inl (cI, 48, .inl d_mounts_cells)), (p_undos, .inr (2, [.int d_undos_most, .ref p_undos_cells, .int d_undos_many])), (p_undos_cells, .inl (cI, 48, .inl d_undos_cells))]) hP hS (fun H locs hP hS => ?_)
  have iwX0 : ∀ w ∈ wsX00, w ∈ wsX0_copyFrom := by decide +kernel
  refine lv_aload_n hx hb dX0_copyFrom_0 rfl (lv_at hl 1 rfl) ?_
  refine lv_ifnonnull (tgt := 5) hx hb dX0_copyFrom_1 (by decide) ?_
  refine lv_aload_n hx hb dX0_copyFrom_5 rfl (lv_at hl 0 rfl) ?_
  refine va_get (D := (dC, dI)) (ci := 0) (v := .ref p_mounts) (C := RX0) (T := TX0) (N := 4) hx hb hts iwX0 hown hK hP 9 rfl rfl 0 (by decide) (hts (.fieldLink RX0 14 "SkyListeners$Now" "mounts" "LSkyListeners$Rows;") (by decide +kernel)) (fun _ h9 => h9) rfl dX0_copyFrom_6 ?_
  refine lv_aload_n hx hb dX0_copyFrom_9 rfl (lv_at hl 1 rfl) ?_
  refine va_get (D := (dC, dI)) (ci := 0) (v := .ref p_a1_mounts) (C := RX0) (T := TX0) (N := 4) hx hb hts iwX0 hown hK hP 0 rfl rfl 0 (by decide) (hts (.fieldLink RX0 14 "SkyListeners$Now" "mounts" "LSkyListeners$Rows;") (by decide +kernel)) (fun _ h9 => h9) rfl dX0_copyFrom_10 ?_
  obtain ⟨q13, hq13, hrun⟩ := bind_out hrun
  have hPc : va_P (dC, dI) vwCl [(p_a1_mounts, .inr (2, [.int d_a1_mounts_most, .ref p_a1_mounts_cells, .int d_a1_mounts_many])), (p_a1_mounts_cells, .inl (cI, 48, .inl d_a1_mounts_cells)), (p_mounts, .inr (2, [.int d_mounts_most, .ref p_mounts_cells, .int d_mounts_many])), (p_mounts_cells, .inl (cI, 48, .inl d_mounts_cells))] H := hP.sub [5, 6, 14, 15] rfl
  have hDc : va_D A [(p_a1_mounts, .inr (2, [.int d_a1_mounts_most, .ref p_a1_mounts_cells, .int d_a1_mounts_many])), (p_a1_mounts_cells, .inl (cI, 48, .inl d_a1_mounts_cells)), (p_mounts, .inr (2, [.int d_mounts_most, .ref p_mounts_cells, .int d_mounts_many])), (p_mounts_cells, .inl (cI, 48, .inl d_mounts_cells))] := hD.sub [5, 6, 14, 15] (by decide) rfl
  have hFc := va_free (wc := [(p_a1_mounts, .inr (2, [.int d_a1_mounts_most, .ref p_a1_mounts_cells, .int d_a1_mounts_many])), (p_a1_mounts_cells, .inl (cI, 48, .inl d_a1_mounts_cells)), (p_mounts, .inr (2, [.int d_mounts_most, .ref p_mounts_cells, .int d_mounts_many])), (p_mounts_cells, .inl (cI, 48, .inl d_mounts_cells))]) hD hS hA [5, 6, 14, 15] rfl
  refine va_callv (va_runV (As := [.ref p_a1_mounts]) (rest := []) ⟨hx, hb, hml, hown, hts⟩ (c_X2_copyFrom l dC dI cI cZ H.size p_a1_mounts p_a1_mounts_cells p_mounts_cells p_mounts d_a1_mounts_most d_a1_mounts_many d_a1_mounts_cells d_mounts_most d_mounts_many d_mounts_cells q13 hq13) (cwV 1 hts gX0_copyFrom_X2_copyFrom rfl rfl rfl (by decide +kernel) ⟨Nat.le_of_ble_eq_true rfl, Nat.le_of_ble_eq_true rfl⟩) ⟨fun a U g mk q => ⟨q.1, PC.mv q.2⟩, va_recv hK hP (ci := 2) (q0 := 14) rfl rfl, fun U hU hW => ⟨rfl, PC.of hU hW hPc hK hDc hN⟩⟩ rfl rfl hl.1 rfl (lv_room (Nat.le_of_ble_eq_true rfl)) dX0_copyFrom_13 ⟨Nat.zero_le _, Nat.zero_le _⟩) hS (fun q _ h => hFc q h) hFc (fun u t H1 locs ht hvm hw hB hz1 hk1 hS => ?_)
  obtain ⟨hP1, hD1⟩ := hB
  rw [ht] at hP1
  obtain ⟨hP, hD⟩ := va_join (wr := [(p_a1, .inr (0, [.ref p_a1_mounts, .ref p_a1_lendings, .ref p_a1_log, .ref p_a1_undos])), (p_a1_lendings, .inr (2, [.int d_a1_lendings_most, .ref p_a1_lendings_cells, .int d_a1_lendings_many])), (p_a1_lendings_cells, .inl (cI, 48, .inl d_a1_lendings_cells)), (p_a1_log, .inr (2, [.int d_a1_log_most, .ref p_a1_log_cells, .int d_a1_log_many])), (p_a1_log_cells, .inl (cI, 48, .inl d_a1_log_cells)), (p_a1_undos, .inr (2, [.int d_a1_undos_most, .ref p_a1_undos_cells, .int d_a1_undos_many])), (p_a1_undos_cells, .inl (cI, 48, .inl d_a1_undos_cells)), (p_this, .inr (0, [.ref p_mounts, .ref p_lendings, .ref p_log, .ref p_undos])), (p_lendings, .inr (2, [.int d_lendings_most, .ref p_lendings_cells, .int d_lendings_many])), (p_lendings_cells, .inl (cI, 48, .inl d_lendings_cells)), (p_log, .inr (2, [.int d_log_most, .ref p_log_cells, .int d_log_many])), (p_log_cells, .inl (cI, 48, .inl d_log_cells)), (p_undos, .inr (2, [.int d_undos_most, .ref p_undos_cells, .int d_undos_many])), (p_undos_cells, .inl (cI, 48, .inl d_undos_cells))]) (w1 := [(p_a1_mounts, .inr (2, [.int d_a1_mounts_most, .ref p_a1_mounts_cells, .int d_a1_mounts_many])), (p_a1_mounts_cells, .inl (cI, 48, .inl d_a1_mounts_cells)), (p_mounts, .inr (2, [.int d_mounts_most, .ref p_mounts_cells, .int q13.1])), (p_mounts_cells, .inl (cI, 48, .inl q13.2))]) hP hD [5, 6, 14, 15] [0, 1, 2, 3, 4, 7, 8, 9, 10, 11, 12, 13, 16, 17] rfl rfl (by decide) (by decide) hk1 hFc hP1 hD1
  have hP : va_P (dC, dI) vwCl [(p_a1, .inr (0, [.ref p_a1_mounts, .ref p_a1_lendings, .ref p_a1_log, .ref p_a1_undos])), (p_a1_lendings, .inr (2, [.int d_a1_lendings_most, .ref p_a1_lendings_cells, .int d_a1_lendings_many])), (p_a1_lendings_cells, .inl (cI, 48, .inl d_a1_lendings_cells)), (p_a1_log, .inr (2, [.int d_a1_log_most, .ref p_a1_log_cells, .int d_a1_log_many])), (p_a1_log_cells, .inl (cI, 48, .inl d_a1_log_cells)), (p_a1_mounts, .inr (2, [.int d_a1_mounts_most, .ref p_a1_mounts_cells, .int d_a1_mounts_many])), (p_a1_mounts_cells, .inl (cI, 48, .inl d_a1_mounts_cells)), (p_a1_undos, .inr (2, [.int d_a1_undos_most, .ref p_a1_undos_cells, .int d_a1_undos_many])), (p_a1_undos_cells, .inl (cI, 48, .inl d_a1_undos_cells)), (p_this, .inr (0, [.ref p_mounts, .ref p_lendings, .ref p_log, .ref p_undos])), (p_lendings, .inr (2, [.int d_lendings_most, .ref p_lendings_cells, .int d_lendings_many])), (p_lendings_cells, .inl (cI, 48, .inl d_lendings_cells)), (p_log, .inr (2, [.int d_log_most, .ref p_log_cells, .int d_log_many])), (p_log_cells, .inl (cI, 48, .inl d_log_cells)), (p_mounts, .inr (2, [.int d_mounts_most, .ref p_mounts_cells, .int q13.1])), (p_mounts_cells, .inl (cI, 48, .inl q13.2)), (p_undos, .inr (2, [.int d_undos_most, .ref p_undos_cells, .int d_undos_many])), (p_undos_cells, .inl (cI, 48, .inl d_undos_cells))] H1 := hP.sub [0, 1, 2, 3, 4, 14, 15, 5, 6, 7, 8, 9, 10, 11, 16, 17, 12, 13] rfl
  have hD : va_D A [(p_a1, .inr (0, [.ref p_a1_mounts, .ref p_a1_lendings, .ref p_a1_log, .ref p_a1_undos])), (p_a1_lendings, .inr (2, [.int d_a1_lendings_most, .ref p_a1_lendings_cells, .int d_a1_lendings_many])), (p_a1_lendings_cells, .inl (cI, 48, .inl d_a1_lendings_cells)), (p_a1_log, .inr (2, [.int d_a1_log_most, .ref p_a1_log_cells, .int d_a1_log_many])), (p_a1_log_cells, .inl (cI, 48, .inl d_a1_log_cells)), (p_a1_mounts, .inr (2, [.int d_a1_mounts_most, .ref p_a1_mounts_cells, .int d_a1_mounts_many])), (p_a1_mounts_cells, .inl (cI, 48, .inl d_a1_mounts_cells)), (p_a1_undos, .inr (2, [.int d_a1_undos_most, .ref p_a1_undos_cells, .int d_a1_undos_many])), (p_a1_undos_cells, .inl (cI, 48, .inl d_a1_undos_cells)), (p_this, .inr (0, [.ref p_mounts, .ref p_lendings, .ref p_log, .ref p_undos])), (p_lendings, .inr (2, [.int d_lendings_most, .ref p_lendings_cells, .int d_lendings_many])), (p_lendings_cells, .inl (cI, 48, .inl d_lendings_cells)), (p_log, .inr (2, [.int d_log_most, .ref p_log_cells, .int d_log_many])), (p_log_cells, .inl (cI, 48, .inl d_log_cells)), (p_mounts, .inr (2, [.int d_mounts_most, .ref p_mounts_cells, .int q13.1])), (p_mounts_cells, .inl (cI, 48, .inl q13.2)), (p_undos, .inr (2, [.int d_undos_most, .ref p_undos_cells, .int d_undos_many])), (p_undos_cells, .inl (cI, 48, .inl d_undos_cells))] := hD.sub [0, 1, 2, 3, 4, 14, 15, 5, 6, 7, 8, 9, 10, 11, 16, 17, 12, 13] (by decide) rfl
  clear hPc hDc hFc hk1 hz1 hP1 hD1 ht hvm
  generalize H1 = H at hP hS ⊢
  refine lv_aload_n hx hb dX0_copyFrom_16 rfl (lv_at hl 0 rfl) ?_
  refine va_get (D := (dC, dI)) (ci := 0) (v := .ref p_lendings) (C := RX0) (T := TX0) (N := 4) hx hb hts iwX0 hown hK hP 9 rfl rfl 1 (by decide) (hts (.fieldLink RX0 20 "SkyListeners$Now" "lendings" "LSkyListeners$Rows;") (by decide +kernel)) (fun _ h9 => h9) rfl dX0_copyFrom_17 ?_
  refine lv_aload_n hx hb dX0_copyFrom_20 rfl (lv_at hl 1 rfl) ?_
  refine va_get (D := (dC, dI)) (ci := 0) (v := .ref p_a1_lendings) (C := RX0) (T := TX0) (N := 4) hx hb hts iwX0 hown hK hP 0 rfl rfl 1 (by decide) (hts (.fieldLink RX0 20 "SkyListeners$Now" "lendings" "LSkyListeners$Rows;") (by decide +kernel)) (fun _ h9 => h9) rfl dX0_copyFrom_21 ?_
  obtain ⟨q24, hq24, hrun⟩ := bind_out hrun
  have hPc : va_P (dC, dI) vwCl [(p_a1_lendings, .inr (2, [.int d_a1_lendings_most, .ref p_a1_lendings_cells, .int d_a1_lendings_many])), (p_a1_lendings_cells, .inl (cI, 48, .inl d_a1_lendings_cells)), (p_lendings, .inr (2, [.int d_lendings_most, .ref p_lendings_cells, .int d_lendings_many])), (p_lendings_cells, .inl (cI, 48, .inl d_lendings_cells))] H := hP.sub [1, 2, 10, 11] rfl
  have hDc : va_D A [(p_a1_lendings, .inr (2, [.int d_a1_lendings_most, .ref p_a1_lendings_cells, .int d_a1_lendings_many])), (p_a1_lendings_cells, .inl (cI, 48, .inl d_a1_lendings_cells)), (p_lendings, .inr (2, [.int d_lendings_most, .ref p_lendings_cells, .int d_lendings_many])), (p_lendings_cells, .inl (cI, 48, .inl d_lendings_cells))] := hD.sub [1, 2, 10, 11] (by decide) rfl
  have hFc := va_free (wc := [(p_a1_lendings, .inr (2, [.int d_a1_lendings_most, .ref p_a1_lendings_cells, .int d_a1_lendings_many])), (p_a1_lendings_cells, .inl (cI, 48, .inl d_a1_lendings_cells)), (p_lendings, .inr (2, [.int d_lendings_most, .ref p_lendings_cells, .int d_lendings_many])), (p_lendings_cells, .inl (cI, 48, .inl d_lendings_cells))]) hD hS hA [1, 2, 10, 11] rfl
  refine va_callv (va_runV (As := [.ref p_a1_lendings]) (rest := []) ⟨hx, hb, hml, hown, hts⟩ (c_X2_copyFrom l dC dI cI cZ H.size p_a1_lendings p_a1_lendings_cells p_lendings_cells p_lendings d_a1_lendings_most d_a1_lendings_many d_a1_lendings_cells d_lendings_most d_lendings_many d_lendings_cells q24 hq24) (cwV 1 hts gX0_copyFrom_X2_copyFrom rfl rfl rfl (by decide +kernel) ⟨Nat.le_of_ble_eq_true rfl, Nat.le_of_ble_eq_true rfl⟩) ⟨fun a U g mk q => ⟨q.1, PC.mv q.2⟩, va_recv hK hP (ci := 2) (q0 := 10) rfl rfl, fun U hU hW => ⟨rfl, PC.of hU hW hPc hK hDc hN⟩⟩ rfl rfl hl.1 rfl (lv_room (Nat.le_of_ble_eq_true rfl)) dX0_copyFrom_24 ⟨Nat.zero_le _, Nat.zero_le _⟩) hS (fun q _ h => hFc q h) hFc (fun u t H1 locs ht hvm hw hB hz1 hk1 hS => ?_)
  obtain ⟨hP1, hD1⟩ := hB
  rw [ht] at hP1
  obtain ⟨hP, hD⟩ := va_join (wr := [(p_a1, .inr (0, [.ref p_a1_mounts, .ref p_a1_lendings, .ref p_a1_log, .ref p_a1_undos])), (p_a1_log, .inr (2, [.int d_a1_log_most, .ref p_a1_log_cells, .int d_a1_log_many])), (p_a1_log_cells, .inl (cI, 48, .inl d_a1_log_cells)), (p_a1_mounts, .inr (2, [.int d_a1_mounts_most, .ref p_a1_mounts_cells, .int d_a1_mounts_many])), (p_a1_mounts_cells, .inl (cI, 48, .inl d_a1_mounts_cells)), (p_a1_undos, .inr (2, [.int d_a1_undos_most, .ref p_a1_undos_cells, .int d_a1_undos_many])), (p_a1_undos_cells, .inl (cI, 48, .inl d_a1_undos_cells)), (p_this, .inr (0, [.ref p_mounts, .ref p_lendings, .ref p_log, .ref p_undos])), (p_log, .inr (2, [.int d_log_most, .ref p_log_cells, .int d_log_many])), (p_log_cells, .inl (cI, 48, .inl d_log_cells)), (p_mounts, .inr (2, [.int d_mounts_most, .ref p_mounts_cells, .int q13.1])), (p_mounts_cells, .inl (cI, 48, .inl q13.2)), (p_undos, .inr (2, [.int d_undos_most, .ref p_undos_cells, .int d_undos_many])), (p_undos_cells, .inl (cI, 48, .inl d_undos_cells))]) (w1 := [(p_a1_lendings, .inr (2, [.int d_a1_lendings_most, .ref p_a1_lendings_cells, .int d_a1_lendings_many])), (p_a1_lendings_cells, .inl (cI, 48, .inl d_a1_lendings_cells)), (p_lendings, .inr (2, [.int d_lendings_most, .ref p_lendings_cells, .int q24.1])), (p_lendings_cells, .inl (cI, 48, .inl q24.2))]) hP hD [1, 2, 10, 11] [0, 3, 4, 5, 6, 7, 8, 9, 12, 13, 14, 15, 16, 17] rfl rfl (by decide) (by decide) hk1 hFc hP1 hD1
  have hP : va_P (dC, dI) vwCl [(p_a1, .inr (0, [.ref p_a1_mounts, .ref p_a1_lendings, .ref p_a1_log, .ref p_a1_undos])), (p_a1_lendings, .inr (2, [.int d_a1_lendings_most, .ref p_a1_lendings_cells, .int d_a1_lendings_many])), (p_a1_lendings_cells, .inl (cI, 48, .inl d_a1_lendings_cells)), (p_a1_log, .inr (2, [.int d_a1_log_most, .ref p_a1_log_cells, .int d_a1_log_many])), (p_a1_log_cells, .inl (cI, 48, .inl d_a1_log_cells)), (p_a1_mounts, .inr (2, [.int d_a1_mounts_most, .ref p_a1_mounts_cells, .int d_a1_mounts_many])), (p_a1_mounts_cells, .inl (cI, 48, .inl d_a1_mounts_cells)), (p_a1_undos, .inr (2, [.int d_a1_undos_most, .ref p_a1_undos_cells, .int d_a1_undos_many])), (p_a1_undos_cells, .inl (cI, 48, .inl d_a1_undos_cells)), (p_this, .inr (0, [.ref p_mounts, .ref p_lendings, .ref p_log, .ref p_undos])), (p_lendings, .inr (2, [.int d_lendings_most, .ref p_lendings_cells, .int q24.1])), (p_lendings_cells, .inl (cI, 48, .inl q24.2)), (p_log, .inr (2, [.int d_log_most, .ref p_log_cells, .int d_log_many])), (p_log_cells, .inl (cI, 48, .inl d_log_cells)), (p_mounts, .inr (2, [.int d_mounts_most, .ref p_mounts_cells, .int q13.1])), (p_mounts_cells, .inl (cI, 48, .inl q13.2)), (p_undos, .inr (2, [.int d_undos_most, .ref p_undos_cells, .int d_undos_many])), (p_undos_cells, .inl (cI, 48, .inl d_undos_cells))] H1 := hP.sub [0, 14, 15, 1, 2, 3, 4, 5, 6, 7, 16, 17, 8, 9, 10, 11, 12, 13] rfl
  have hD : va_D A [(p_a1, .inr (0, [.ref p_a1_mounts, .ref p_a1_lendings, .ref p_a1_log, .ref p_a1_undos])), (p_a1_lendings, .inr (2, [.int d_a1_lendings_most, .ref p_a1_lendings_cells, .int d_a1_lendings_many])), (p_a1_lendings_cells, .inl (cI, 48, .inl d_a1_lendings_cells)), (p_a1_log, .inr (2, [.int d_a1_log_most, .ref p_a1_log_cells, .int d_a1_log_many])), (p_a1_log_cells, .inl (cI, 48, .inl d_a1_log_cells)), (p_a1_mounts, .inr (2, [.int d_a1_mounts_most, .ref p_a1_mounts_cells, .int d_a1_mounts_many])), (p_a1_mounts_cells, .inl (cI, 48, .inl d_a1_mounts_cells)), (p_a1_undos, .inr (2, [.int d_a1_undos_most, .ref p_a1_undos_cells, .int d_a1_undos_many])), (p_a1_undos_cells, .inl (cI, 48, .inl d_a1_undos_cells)), (p_this, .inr (0, [.ref p_mounts, .ref p_lendings, .ref p_log, .ref p_undos])), (p_lendings, .inr (2, [.int d_lendings_most, .ref p_lendings_cells, .int q24.1])), (p_lendings_cells, .inl (cI, 48, .inl q24.2)), (p_log, .inr (2, [.int d_log_most, .ref p_log_cells, .int d_log_many])), (p_log_cells, .inl (cI, 48, .inl d_log_cells)), (p_mounts, .inr (2, [.int d_mounts_most, .ref p_mounts_cells, .int q13.1])), (p_mounts_cells, .inl (cI, 48, .inl q13.2)), (p_undos, .inr (2, [.int d_undos_most, .ref p_undos_cells, .int d_undos_many])), (p_undos_cells, .inl (cI, 48, .inl d_undos_cells))] := hD.sub [0, 14, 15, 1, 2, 3, 4, 5, 6, 7, 16, 17, 8, 9, 10, 11, 12, 13] (by decide) rfl
  clear hPc hDc hFc hk1 hz1 hP1 hD1 ht hvm
  generalize H1 = H at hP hS ⊢
  refine lv_aload_n hx hb dX0_copyFrom_27 rfl (lv_at hl 0 rfl) ?_
  refine va_get (D := (dC, dI)) (ci := 0) (v := .ref p_log) (C := RX0) (T := TX0) (N := 4) hx hb hts iwX0 hown hK hP 9 rfl rfl 2 (by decide) (hts (.fieldLink RX0 23 "SkyListeners$Now" "log" "LSkyListeners$Rows;") (by decide +kernel)) (fun _ h9 => h9) rfl dX0_copyFrom_28 ?_
  refine lv_aload_n hx hb dX0_copyFrom_31 rfl (lv_at hl 1 rfl) ?_
  refine va_get (D := (dC, dI)) (ci := 0) (v := .ref p_a1_log) (C := RX0) (T := TX0) (N := 4) hx hb hts iwX0 hown hK hP 0 rfl rfl 2 (by decide) (hts (.fieldLink RX0 23 "SkyListeners$Now" "log" "LSkyListeners$Rows;") (by decide +kernel)) (fun _ h9 => h9) rfl dX0_copyFrom_32 ?_
  obtain ⟨q35, hq35, hrun⟩ := bind_out hrun
  have hPc : va_P (dC, dI) vwCl [(p_a1_log, .inr (2, [.int d_a1_log_most, .ref p_a1_log_cells, .int d_a1_log_many])), (p_a1_log_cells, .inl (cI, 48, .inl d_a1_log_cells)), (p_log, .inr (2, [.int d_log_most, .ref p_log_cells, .int d_log_many])), (p_log_cells, .inl (cI, 48, .inl d_log_cells))] H := hP.sub [3, 4, 12, 13] rfl
  have hDc : va_D A [(p_a1_log, .inr (2, [.int d_a1_log_most, .ref p_a1_log_cells, .int d_a1_log_many])), (p_a1_log_cells, .inl (cI, 48, .inl d_a1_log_cells)), (p_log, .inr (2, [.int d_log_most, .ref p_log_cells, .int d_log_many])), (p_log_cells, .inl (cI, 48, .inl d_log_cells))] := hD.sub [3, 4, 12, 13] (by decide) rfl
  have hFc := va_free (wc := [(p_a1_log, .inr (2, [.int d_a1_log_most, .ref p_a1_log_cells, .int d_a1_log_many])), (p_a1_log_cells, .inl (cI, 48, .inl d_a1_log_cells)), (p_log, .inr (2, [.int d_log_most, .ref p_log_cells, .int d_log_many])), (p_log_cells, .inl (cI, 48, .inl d_log_cells))]) hD hS hA [3, 4, 12, 13] rfl
  refine va_callv (va_runV (As := [.ref p_a1_log]) (rest := []) ⟨hx, hb, hml, hown, hts⟩ (c_X2_copyFrom l dC dI cI cZ H.size p_a1_log p_a1_log_cells p_log_cells p_log d_a1_log_most d_a1_log_many d_a1_log_cells d_log_most d_log_many d_log_cells q35 hq35) (cwV 1 hts gX0_copyFrom_X2_copyFrom rfl rfl rfl (by decide +kernel) ⟨Nat.le_of_ble_eq_true rfl, Nat.le_of_ble_eq_true rfl⟩) ⟨fun a U g mk q => ⟨q.1, PC.mv q.2⟩, va_recv hK hP (ci := 2) (q0 := 12) rfl rfl, fun U hU hW => ⟨rfl, PC.of hU hW hPc hK hDc hN⟩⟩ rfl rfl hl.1 rfl (lv_room (Nat.le_of_ble_eq_true rfl)) dX0_copyFrom_35 ⟨Nat.zero_le _, Nat.zero_le _⟩) hS (fun q _ h => hFc q h) hFc (fun u t H1 locs ht hvm hw hB hz1 hk1 hS => ?_)
  obtain ⟨hP1, hD1⟩ := hB
  rw [ht] at hP1
  obtain ⟨hP, hD⟩ := va_join (wr := [(p_a1, .inr (0, [.ref p_a1_mounts, .ref p_a1_lendings, .ref p_a1_log, .ref p_a1_undos])), (p_a1_lendings, .inr (2, [.int d_a1_lendings_most, .ref p_a1_lendings_cells, .int d_a1_lendings_many])), (p_a1_lendings_cells, .inl (cI, 48, .inl d_a1_lendings_cells)), (p_a1_mounts, .inr (2, [.int d_a1_mounts_most, .ref p_a1_mounts_cells, .int d_a1_mounts_many])), (p_a1_mounts_cells, .inl (cI, 48, .inl d_a1_mounts_cells)), (p_a1_undos, .inr (2, [.int d_a1_undos_most, .ref p_a1_undos_cells, .int d_a1_undos_many])), (p_a1_undos_cells, .inl (cI, 48, .inl d_a1_undos_cells)), (p_this, .inr (0, [.ref p_mounts, .ref p_lendings, .ref p_log, .ref p_undos])), (p_lendings, .inr (2, [.int d_lendings_most, .ref p_lendings_cells, .int q24.1])), (p_lendings_cells, .inl (cI, 48, .inl q24.2)), (p_mounts, .inr (2, [.int d_mounts_most, .ref p_mounts_cells, .int q13.1])), (p_mounts_cells, .inl (cI, 48, .inl q13.2)), (p_undos, .inr (2, [.int d_undos_most, .ref p_undos_cells, .int d_undos_many])), (p_undos_cells, .inl (cI, 48, .inl d_undos_cells))]) (w1 := [(p_a1_log, .inr (2, [.int d_a1_log_most, .ref p_a1_log_cells, .int d_a1_log_many])), (p_a1_log_cells, .inl (cI, 48, .inl d_a1_log_cells)), (p_log, .inr (2, [.int d_log_most, .ref p_log_cells, .int q35.1])), (p_log_cells, .inl (cI, 48, .inl q35.2))]) hP hD [3, 4, 12, 13] [0, 1, 2, 5, 6, 7, 8, 9, 10, 11, 14, 15, 16, 17] rfl rfl (by decide) (by decide) hk1 hFc hP1 hD1
  have hP : va_P (dC, dI) vwCl [(p_a1, .inr (0, [.ref p_a1_mounts, .ref p_a1_lendings, .ref p_a1_log, .ref p_a1_undos])), (p_a1_lendings, .inr (2, [.int d_a1_lendings_most, .ref p_a1_lendings_cells, .int d_a1_lendings_many])), (p_a1_lendings_cells, .inl (cI, 48, .inl d_a1_lendings_cells)), (p_a1_log, .inr (2, [.int d_a1_log_most, .ref p_a1_log_cells, .int d_a1_log_many])), (p_a1_log_cells, .inl (cI, 48, .inl d_a1_log_cells)), (p_a1_mounts, .inr (2, [.int d_a1_mounts_most, .ref p_a1_mounts_cells, .int d_a1_mounts_many])), (p_a1_mounts_cells, .inl (cI, 48, .inl d_a1_mounts_cells)), (p_a1_undos, .inr (2, [.int d_a1_undos_most, .ref p_a1_undos_cells, .int d_a1_undos_many])), (p_a1_undos_cells, .inl (cI, 48, .inl d_a1_undos_cells)), (p_this, .inr (0, [.ref p_mounts, .ref p_lendings, .ref p_log, .ref p_undos])), (p_lendings, .inr (2, [.int d_lendings_most, .ref p_lendings_cells, .int q24.1])), (p_lendings_cells, .inl (cI, 48, .inl q24.2)), (p_log, .inr (2, [.int d_log_most, .ref p_log_cells, .int q35.1])), (p_log_cells, .inl (cI, 48, .inl q35.2)), (p_mounts, .inr (2, [.int d_mounts_most, .ref p_mounts_cells, .int q13.1])), (p_mounts_cells, .inl (cI, 48, .inl q13.2)), (p_undos, .inr (2, [.int d_undos_most, .ref p_undos_cells, .int d_undos_many])), (p_undos_cells, .inl (cI, 48, .inl d_undos_cells))] H1 := hP.sub [0, 1, 2, 14, 15, 3, 4, 5, 6, 7, 8, 9, 16, 17, 10, 11, 12, 13] rfl
  have hD : va_D A [(p_a1, .inr (0, [.ref p_a1_mounts, .ref p_a1_lendings, .ref p_a1_log, .ref p_a1_undos])), (p_a1_lendings, .inr (2, [.int d_a1_lendings_most, .ref p_a1_lendings_cells, .int d_a1_lendings_many])), (p_a1_lendings_cells, .inl (cI, 48, .inl d_a1_lendings_cells)), (p_a1_log, .inr (2, [.int d_a1_log_most, .ref p_a1_log_cells, .int d_a1_log_many])), (p_a1_log_cells, .inl (cI, 48, .inl d_a1_log_cells)), (p_a1_mounts, .inr (2, [.int d_a1_mounts_most, .ref p_a1_mounts_cells, .int d_a1_mounts_many])), (p_a1_mounts_cells, .inl (cI, 48, .inl d_a1_mounts_cells)), (p_a1_undos, .inr (2, [.int d_a1_undos_most, .ref p_a1_undos_cells, .int d_a1_undos_many])), (p_a1_undos_cells, .inl (cI, 48, .inl d_a1_undos_cells)), (p_this, .inr (0, [.ref p_mounts, .ref p_lendings, .ref p_log, .ref p_undos])), (p_lendings, .inr (2, [.int d_lendings_most, .ref p_lendings_cells, .int q24.1])), (p_lendings_cells, .inl (cI, 48, .inl q24.2)), (p_log, .inr (2, [.int d_log_most, .ref p_log_cells, .int q35.1])), (p_log_cells, .inl (cI, 48, .inl q35.2)), (p_mounts, .inr (2, [.int d_mounts_most, .ref p_mounts_cells, .int q13.1])), (p_mounts_cells, .inl (cI, 48, .inl q13.2)), (p_undos, .inr (2, [.int d_undos_most, .ref p_undos_cells, .int d_undos_many])), (p_undos_cells, .inl (cI, 48, .inl d_undos_cells))] := hD.sub [0, 1, 2, 14, 15, 3, 4, 5, 6, 7, 8, 9, 16, 17, 10, 11, 12, 13] (by decide) rfl
  clear hPc hDc hFc hk1 hz1 hP1 hD1 ht hvm
  generalize H1 = H at hP hS ⊢
  refine lv_aload_n hx hb dX0_copyFrom_38 rfl (lv_at hl 0 rfl) ?_
  refine va_get (D := (dC, dI)) (ci := 0) (v := .ref p_undos) (C := RX0) (T := TX0) (N := 4) hx hb hts iwX0 hown hK hP 9 rfl rfl 3 (by decide) (hts (.fieldLink RX0 26 "SkyListeners$Now" "undos" "LSkyListeners$Rows;") (by decide +kernel)) (fun _ h9 => h9) rfl dX0_copyFrom_39 ?_
  refine lv_aload_n hx hb dX0_copyFrom_42 rfl (lv_at hl 1 rfl) ?_
  refine va_get (D := (dC, dI)) (ci := 0) (v := .ref p_a1_undos) (C := RX0) (T := TX0) (N := 4) hx hb hts iwX0 hown hK hP 0 rfl rfl 3 (by decide) (hts (.fieldLink RX0 26 "SkyListeners$Now" "undos" "LSkyListeners$Rows;") (by decide +kernel)) (fun _ h9 => h9) rfl dX0_copyFrom_43 ?_
  obtain ⟨q46, hq46, hrun⟩ := bind_out hrun
  have hPc : va_P (dC, dI) vwCl [(p_a1_undos, .inr (2, [.int d_a1_undos_most, .ref p_a1_undos_cells, .int d_a1_undos_many])), (p_a1_undos_cells, .inl (cI, 48, .inl d_a1_undos_cells)), (p_undos, .inr (2, [.int d_undos_most, .ref p_undos_cells, .int d_undos_many])), (p_undos_cells, .inl (cI, 48, .inl d_undos_cells))] H := hP.sub [7, 8, 16, 17] rfl
  have hDc : va_D A [(p_a1_undos, .inr (2, [.int d_a1_undos_most, .ref p_a1_undos_cells, .int d_a1_undos_many])), (p_a1_undos_cells, .inl (cI, 48, .inl d_a1_undos_cells)), (p_undos, .inr (2, [.int d_undos_most, .ref p_undos_cells, .int d_undos_many])), (p_undos_cells, .inl (cI, 48, .inl d_undos_cells))] := hD.sub [7, 8, 16, 17] (by decide) rfl
  have hFc := va_free (wc := [(p_a1_undos, .inr (2, [.int d_a1_undos_most, .ref p_a1_undos_cells, .int d_a1_undos_many])), (p_a1_undos_cells, .inl (cI, 48, .inl d_a1_undos_cells)), (p_undos, .inr (2, [.int d_undos_most, .ref p_undos_cells, .int d_undos_many])), (p_undos_cells, .inl (cI, 48, .inl d_undos_cells))]) hD hS hA [7, 8, 16, 17] rfl
  refine va_callv (va_runV (As := [.ref p_a1_undos]) (rest := []) ⟨hx, hb, hml, hown, hts⟩ (c_X2_copyFrom l dC dI cI cZ H.size p_a1_undos p_a1_undos_cells p_undos_cells p_undos d_a1_undos_most d_a1_undos_many d_a1_undos_cells d_undos_most d_undos_many d_undos_cells q46 hq46) (cwV 1 hts gX0_copyFrom_X2_copyFrom rfl rfl rfl (by decide +kernel) ⟨Nat.le_of_ble_eq_true rfl, Nat.le_of_ble_eq_true rfl⟩) ⟨fun a U g mk q => ⟨q.1, PC.mv q.2⟩, va_recv hK hP (ci := 2) (q0 := 16) rfl rfl, fun U hU hW => ⟨rfl, PC.of hU hW hPc hK hDc hN⟩⟩ rfl rfl hl.1 rfl (lv_room (Nat.le_of_ble_eq_true rfl)) dX0_copyFrom_46 ⟨Nat.zero_le _, Nat.zero_le _⟩) hS (fun q _ h => hFc q h) hFc (fun u t H1 locs ht hvm hw hB hz1 hk1 hS => ?_)
  obtain ⟨hP1, hD1⟩ := hB
  rw [ht] at hP1
  obtain ⟨hP, hD⟩ := va_join (wr := [(p_a1, .inr (0, [.ref p_a1_mounts, .ref p_a1_lendings, .ref p_a1_log, .ref p_a1_undos])), (p_a1_lendings, .inr (2, [.int d_a1_lendings_most, .ref p_a1_lendings_cells, .int d_a1_lendings_many])), (p_a1_lendings_cells, .inl (cI, 48, .inl d_a1_lendings_cells)), (p_a1_log, .inr (2, [.int d_a1_log_most, .ref p_a1_log_cells, .int d_a1_log_many])), (p_a1_log_cells, .inl (cI, 48, .inl d_a1_log_cells)), (p_a1_mounts, .inr (2, [.int d_a1_mounts_most, .ref p_a1_mounts_cells, .int d_a1_mounts_many])), (p_a1_mounts_cells, .inl (cI, 48, .inl d_a1_mounts_cells)), (p_this, .inr (0, [.ref p_mounts, .ref p_lendings, .ref p_log, .ref p_undos])), (p_lendings, .inr (2, [.int d_lendings_most, .ref p_lendings_cells, .int q24.1])), (p_lendings_cells, .inl (cI, 48, .inl q24.2)), (p_log, .inr (2, [.int d_log_most, .ref p_log_cells, .int q35.1])), (p_log_cells, .inl (cI, 48, .inl q35.2)), (p_mounts, .inr (2, [.int d_mounts_most, .ref p_mounts_cells, .int q13.1])), (p_mounts_cells, .inl (cI, 48, .inl q13.2))]) (w1 := [(p_a1_undos, .inr (2, [.int d_a1_undos_most, .ref p_a1_undos_cells, .int d_a1_undos_many])), (p_a1_undos_cells, .inl (cI, 48, .inl d_a1_undos_cells)), (p_undos, .inr (2, [.int d_undos_most, .ref p_undos_cells, .int q46.1])), (p_undos_cells, .inl (cI, 48, .inl q46.2))]) hP hD [7, 8, 16, 17] [0, 1, 2, 3, 4, 5, 6, 9, 10, 11, 12, 13, 14, 15] rfl rfl (by decide) (by decide) hk1 hFc hP1 hD1
  have hP : va_P (dC, dI) vwCl [(p_a1, .inr (0, [.ref p_a1_mounts, .ref p_a1_lendings, .ref p_a1_log, .ref p_a1_undos])), (p_a1_lendings, .inr (2, [.int d_a1_lendings_most, .ref p_a1_lendings_cells, .int d_a1_lendings_many])), (p_a1_lendings_cells, .inl (cI, 48, .inl d_a1_lendings_cells)), (p_a1_log, .inr (2, [.int d_a1_log_most, .ref p_a1_log_cells, .int d_a1_log_many])), (p_a1_log_cells, .inl (cI, 48, .inl d_a1_log_cells)), (p_a1_mounts, .inr (2, [.int d_a1_mounts_most, .ref p_a1_mounts_cells, .int d_a1_mounts_many])), (p_a1_mounts_cells, .inl (cI, 48, .inl d_a1_mounts_cells)), (p_a1_undos, .inr (2, [.int d_a1_undos_most, .ref p_a1_undos_cells, .int d_a1_undos_many])), (p_a1_undos_cells, .inl (cI, 48, .inl d_a1_undos_cells)), (p_this, .inr (0, [.ref p_mounts, .ref p_lendings, .ref p_log, .ref p_undos])), (p_lendings, .inr (2, [.int d_lendings_most, .ref p_lendings_cells, .int q24.1])), (p_lendings_cells, .inl (cI, 48, .inl q24.2)), (p_log, .inr (2, [.int d_log_most, .ref p_log_cells, .int q35.1])), (p_log_cells, .inl (cI, 48, .inl q35.2)), (p_mounts, .inr (2, [.int d_mounts_most, .ref p_mounts_cells, .int q13.1])), (p_mounts_cells, .inl (cI, 48, .inl q13.2)), (p_undos, .inr (2, [.int d_undos_most, .ref p_undos_cells, .int q46.1])), (p_undos_cells, .inl (cI, 48, .inl q46.2))] H1 := hP.sub [0, 1, 2, 3, 4, 5, 6, 14, 15, 7, 8, 9, 10, 11, 12, 13, 16, 17] rfl
  have hD : va_D A [(p_a1, .inr (0, [.ref p_a1_mounts, .ref p_a1_lendings, .ref p_a1_log, .ref p_a1_undos])), (p_a1_lendings, .inr (2, [.int d_a1_lendings_most, .ref p_a1_lendings_cells, .int d_a1_lendings_many])), (p_a1_lendings_cells, .inl (cI, 48, .inl d_a1_lendings_cells)), (p_a1_log, .inr (2, [.int d_a1_log_most, .ref p_a1_log_cells, .int d_a1_log_many])), (p_a1_log_cells, .inl (cI, 48, .inl d_a1_log_cells)), (p_a1_mounts, .inr (2, [.int d_a1_mounts_most, .ref p_a1_mounts_cells, .int d_a1_mounts_many])), (p_a1_mounts_cells, .inl (cI, 48, .inl d_a1_mounts_cells)), (p_a1_undos, .inr (2, [.int d_a1_undos_most, .ref p_a1_undos_cells, .int d_a1_undos_many])), (p_a1_undos_cells, .inl (cI, 48, .inl d_a1_undos_cells)), (p_this, .inr (0, [.ref p_mounts, .ref p_lendings, .ref p_log, .ref p_undos])), (p_lendings, .inr (2, [.int d_lendings_most, .ref p_lendings_cells, .int q24.1])), (p_lendings_cells, .inl (cI, 48, .inl q24.2)), (p_log, .inr (2, [.int d_log_most, .ref p_log_cells, .int q35.1])), (p_log_cells, .inl (cI, 48, .inl q35.2)), (p_mounts, .inr (2, [.int d_mounts_most, .ref p_mounts_cells, .int q13.1])), (p_mounts_cells, .inl (cI, 48, .inl q13.2)), (p_undos, .inr (2, [.int d_undos_most, .ref p_undos_cells, .int q46.1])), (p_undos_cells, .inl (cI, 48, .inl q46.2))] := hD.sub [0, 1, 2, 3, 4, 5, 6, 14, 15, 7, 8, 9, 10, 11, 12, 13, 16, 17] (by decide) rfl
  clear hPc hDc hFc hk1 hz1 hP1 hD1 ht hvm
  generalize H1 = H at hP hS ⊢
  have hrun := Option.some.inj hrun
  subst hrun
  rw [hQ]
  exact W.vret hx hb hr (fun t ht hW => ⟨⟨(), rfl, trivial, by rw [ht]; exact hP, hD⟩, hS.F ht⟩) hS.2.2 dX0_copyFrom_49
-- SkyListeners$Now.placeSeen
def f_X0_placeSeen (d_mounts_many : Int32) (d_mounts_cells : Nat → Int32) (x1 : Int32) (x2 : Int32) : Int32 := ((f_J9_floorMod_7cf53 ((f_X2_number d_mounts_many d_mounts_cells x1 0) - x2) 8))
set_option maxHeartbeats 4000000 in
set_option maxRecDepth 100000 in
theorem c_X0_placeSeen (l : Launch) (dC : Nat → ClassId) (dI : Nat → Nat → Nat) (cI cZ : ClassId) (sz : Nat) (p_lendings p_log p_mounts p_mounts_cells p_this p_undos : Nat) (d_mounts_most : Int32) (d_mounts_many : Int32) (d_mounts_cells : Nat → Int32) (x1 : Int32) (x2 : Int32) (out : Int32) (hrun : f_X0_placeSeen d_mounts_many d_mounts_cells x1 x2 = out) : Met l yX0_placeSeen wsX0_placeSeen ({ frames := 2, cells := 0, slots := 0, locals := 44 } : Room) (va_Pc [.ref p_this, .int x1, .int x2] (PC dC dI cI cZ sz ([(p_this, .inr (0, [.ref p_mounts, .ref p_lendings, .ref p_log, .ref p_undos])), (p_mounts, .inr (2, [.int d_mounts_most, .ref p_mounts_cells, .int d_mounts_many])), (p_mounts_cells, .inl (cI, 48, .inl d_mounts_cells))] : va_W))) (va_Qi (fun r (_ : Unit) => r = out) (fun _ t => va_P (dC, dI) vwCl [(p_this, .inr (0, [.ref p_mounts, .ref p_lendings, .ref p_log, .ref p_undos])), (p_mounts, .inr (2, [.int d_mounts_most, .ref p_mounts_cells, .int d_mounts_many])), (p_mounts_cells, .inl (cI, 48, .inl d_mounts_cells))] t.heap ∧ va_D (va_A ([(p_this, .inr (0, [.ref p_mounts, .ref p_lendings, .ref p_log, .ref p_undos])), (p_mounts, .inr (2, [.int d_mounts_most, .ref p_mounts_cells, .int d_mounts_many])), (p_mounts_cells, .inl (cI, 48, .inl d_mounts_cells))] : va_W) sz) [(p_this, .inr (0, [.ref p_mounts, .ref p_lendings, .ref p_log, .ref p_undos])), (p_mounts, .inr (2, [.int d_mounts_most, .ref p_mounts_cells, .int d_mounts_many])), (p_mounts_cells, .inl (cI, 48, .inl d_mounts_cells))]) (va_A ([(p_this, .inr (0, [.ref p_mounts, .ref p_lendings, .ref p_log, .ref p_undos])), (p_mounts, .inr (2, [.int d_mounts_most, .ref p_mounts_cells, .int d_mounts_many])), (p_mounts_cells, .inl (cI, 48, .inl d_mounts_cells))] : va_W) sz)) 0 0 (va_A ([(p_this, .inr (0, [.ref p_mounts, .ref p_lendings, .ref p_log, .ref p_undos])), (p_mounts, .inr (2, [.int d_mounts_most, .ref p_mounts_cells, .int d_mounts_many])), (p_mounts_cells, .inl (cI, 48, .inl d_mounts_cells))] : va_W) sz) := by
  refine Met.ofW (cc := cX0_placeSeen) (maxL := 3) (ret := (some .int)) (by decide) rfl ?_
  intro p e s m args below meth c s₁ B hml hv
  obtain ⟨rfl, hsz, hP, hK, hD0, hN⟩ := hv
  have hx := B.exec
  have hb := B.bytes
  have hr := B.returns
  have hts := atoms_spec (ws := wsX0_placeSeen) B.pre
  have hown : s.vm.findClass RX0 = some m.cls := findClass_of_methodNamed B.named
  have hlocks := B.notSynchronized
  subst hsz
  have hD := hD0.self (sz := s.heap.size)
  generalize hAe : va_A ([(p_this, .inr (0, [.ref p_mounts, .ref p_lendings, .ref p_log, .ref p_undos])), (p_mounts, .inr (2, [.int d_mounts_most, .ref p_mounts_cells, .int d_mounts_many])), (p_mounts_cells, .inl (cI, 48, .inl d_mounts_cells))] : va_W) s.heap.size = A at hD ⊢
  have hA : ∀ q : Nat, s.heap.size ≤ q → A q := fun q h => by rw [← hAe]; exact Or.inr h
  have hS : va_S A s.heap s.heap [] := va_S.rf
  refine W_abs (fun Q hQ => ?_)
  have hl := lv_entry ([.ref p_this, .int x1, .int x2]) (n := 3) (Nat.le_of_ble_eq_true rfl)
  rw [lg_entry_eq]
  generalize (lg_sl ([.ref p_this, .int x1, .int x2]) ++ List.replicate (3 - (lg_sl ([.ref p_this, .int x1, .int x2])).length) Slot.unset).toArray = ls at hl ⊢
  have hl : lv_has ls 3 [(0, .ref p_this), (1, .int x1), (2, .int x2)] := hl
  rw [f_X0_placeSeen] at hrun
  refine W_start (ws := [(p_this, .inr (0, [.ref p_mounts, .ref p_lendings, .ref p_log, .ref p_undos])), (p_mounts, .inr (2, [.int d_mounts_most, .ref p_mounts_cells, .int d_mounts_many])), (p_mounts_cells, .inl (cI, 48, .inl d_mounts_cells))]) hP hS (fun H locs hP hS => ?_)
  have iwX0 : ∀ w ∈ wsX00, w ∈ wsX0_placeSeen := by decide +kernel
  refine lv_aload_n hx hb dX0_placeSeen_0 rfl (lv_at hl 0 rfl) ?_
  refine va_get (D := (dC, dI)) (ci := 0) (v := .ref p_mounts) (C := RX0) (T := TX0) (N := 4) hx hb hts iwX0 hown hK hP 0 rfl rfl 0 (by decide) (hts (.fieldLink RX0 14 "SkyListeners$Now" "mounts" "LSkyListeners$Rows;") (by decide +kernel)) (fun _ h9 => h9) rfl dX0_placeSeen_1 ?_
  refine lv_iload_n hx hb dX0_placeSeen_4 rfl (lv_at hl 1 rfl) ?_
  refine lv_iconst (v := 0) hx hb dX0_placeSeen_5 (by decide) ?_
  have hPc : va_P (dC, dI) vwCl [(p_mounts, .inr (2, [.int d_mounts_most, .ref p_mounts_cells, .int d_mounts_many])), (p_mounts_cells, .inl (cI, 48, .inl d_mounts_cells))] H := hP.sub [1, 2] rfl
  have hDc : va_D A [(p_mounts, .inr (2, [.int d_mounts_most, .ref p_mounts_cells, .int d_mounts_many])), (p_mounts_cells, .inl (cI, 48, .inl d_mounts_cells))] := hD.sub [1, 2] (by decide) rfl
  have hFc := va_free (wc := [(p_mounts, .inr (2, [.int d_mounts_most, .ref p_mounts_cells, .int d_mounts_many])), (p_mounts_cells, .inl (cI, 48, .inl d_mounts_cells))]) hD hS hA [1, 2] rfl
  refine va_calli (va_runV (As := [.int x1, .int 0]) (rest := []) ⟨hx, hb, hml, hown, hts⟩ (c_X2_number l dC dI cI cZ H.size p_mounts_cells p_mounts d_mounts_most d_mounts_many d_mounts_cells x1 0 (f_X2_number d_mounts_many d_mounts_cells x1 0) rfl) (cwV 2 hts gX0_placeSeen_X2_number rfl rfl rfl (by decide +kernel) ⟨Nat.le_of_ble_eq_true rfl, Nat.le_of_ble_eq_true rfl⟩) ⟨fun a U g mk q => ⟨q.1, PC.mv q.2⟩, va_recv hK hP (ci := 2) (q0 := 1) rfl rfl, fun U hU hW => ⟨rfl, PC.of hU hW hPc hK hDc hN⟩⟩ rfl rfl hl.1 rfl (lv_room (Nat.le_of_ble_eq_true rfl)) dX0_placeSeen_6 ⟨Nat.zero_le _, Nat.zero_le _⟩) hS (fun q _ h => hFc q h) hFc (fun r_6 u t H1 locs ht hvm hw hB hz1 hk1 hS => ?_)
  obtain ⟨hP1, hD1⟩ := hB
  try dsimp only at hw
  rw [hw]
  rw [ht] at hP1
  have hP : va_P (dC, dI) vwCl [(p_this, .inr (0, [.ref p_mounts, .ref p_lendings, .ref p_log, .ref p_undos])), (p_mounts, .inr (2, [.int d_mounts_most, .ref p_mounts_cells, .int d_mounts_many])), (p_mounts_cells, .inl (cI, 48, .inl d_mounts_cells))] H1 := join_ro hP hD [1, 2] rfl hk1 hP1
  clear hPc hDc hFc hk1 hz1 hP1 hD1 ht hvm
  generalize H1 = H at hP hS ⊢
  refine lv_iload_n hx hb dX0_placeSeen_9 rfl (lv_at hl 2 rfl) ?_
  refine lv_isub hx hb dX0_placeSeen_10 ?_
  refine lv_bipush (v := 8) hx hb dX0_placeSeen_11 (by decide) ?_
  have hPc : va_P (dC, dI) vwCl [] H := hP.sub [] rfl
  have hDc : va_D A [] := hD.sub [] (by decide) rfl
  have hFc := va_free (wc := []) hD hS hA [] rfl
  refine va_calli (va_runS (As := [.int ((f_X2_number d_mounts_many d_mounts_cells x1 0) - x2), .int 8]) (rest := []) ⟨hx, hb, hml, hown, hts⟩ (c_J9_floorMod_7cf53 l dC dI cI cZ H.size ((f_X2_number d_mounts_many d_mounts_cells x1 0) - x2) 8 (by decide) (f_J9_floorMod_7cf53 ((f_X2_number d_mounts_many d_mounts_cells x1 0) - x2) 8) rfl) (va_cwS 2 hts gX0_placeSeen_J9_floorMod_7cf53 rfl rfl rfl (by decide +kernel) ⟨Nat.le_of_ble_eq_true rfl, Nat.le_of_ble_eq_true rfl⟩) ⟨fun a U g mk q => ⟨q.1, PC.mv q.2⟩, fun U hU hW => ⟨rfl, PC.of hU hW hPc hK hDc hN⟩⟩ rfl rfl hl.1 rfl (lv_room (Nat.le_of_ble_eq_true rfl)) dX0_placeSeen_13 ⟨Nat.zero_le _, Nat.zero_le _⟩) hS (fun q _ h => hFc q h) hFc (fun r_13 u t H1 locs ht hvm hw hB hz1 hk1 hS => ?_)
  obtain ⟨hP1, hD1⟩ := hB
  try dsimp only at hw
  rw [hw]
  rw [ht] at hP1
  have hP : va_P (dC, dI) vwCl [(p_this, .inr (0, [.ref p_mounts, .ref p_lendings, .ref p_log, .ref p_undos])), (p_mounts, .inr (2, [.int d_mounts_most, .ref p_mounts_cells, .int d_mounts_many])), (p_mounts_cells, .inl (cI, 48, .inl d_mounts_cells))] H1 := join_ro hP hD [] rfl hk1 hP1
  clear hPc hDc hFc hk1 hz1 hP1 hD1 ht hvm
  generalize H1 = H at hP hS ⊢
  have hrun := hrun
  subst hrun
  rw [hQ]
  exact W.iret (v := (f_J9_floorMod_7cf53 ((f_X2_number d_mounts_many d_mounts_cells x1 0) - x2) 8)) hx hb hr (fun t ht hW => ⟨⟨(f_J9_floorMod_7cf53 ((f_X2_number d_mounts_many d_mounts_cells x1 0) - x2) 8), (), rfl, rfl, by rw [ht]; exact hP, hD⟩, hS.F ht⟩) hS.2.2 dX0_placeSeen_16
-- SkyListeners$Now.placesSeen
def f_X0_placesSeen_L6 (x1 : Int32) (x3 : Int32) (d_mounts_many : Int32) (d_mounts_cells : Nat → Int32) : Nat → Int32 → Int32 → Option (Int32)
  | 0, _, _ => none
  | n9 + 1, x4, x5 => (if x3 < x5 then (some x4) else (if 24 ≤ x5 then (some x4) else (f_X0_placesSeen_L6  x1 x3 d_mounts_many d_mounts_cells n9 (x4 ||| (1 <<< ((f_X0_placeSeen d_mounts_many d_mounts_cells x1 x5) &&& 31))) (x5 + 1))))
def f_X0_placesSeen (d_mounts_many : Int32) (d_mounts_cells : Nat → Int32) (x1 : Int32) (x2 : Int32) (x3 : Int32) : Option (Int32) := (f_X0_placesSeen_L6 x1 x3 d_mounts_many d_mounts_cells FU 0 x2)
set_option maxHeartbeats 4000000 in
set_option maxRecDepth 100000 in
theorem c_X0_placesSeen (l : Launch) (dC : Nat → ClassId) (dI : Nat → Nat → Nat) (cI cZ : ClassId) (sz : Nat) (p_lendings p_log p_mounts p_mounts_cells p_this p_undos : Nat) (d_mounts_most : Int32) (d_mounts_many : Int32) (d_mounts_cells : Nat → Int32) (x1 : Int32) (x2 : Int32) (x3 : Int32) (out : Int32) (hrun : f_X0_placesSeen d_mounts_many d_mounts_cells x1 x2 x3 = some out) : Met l yX0_placesSeen wsX0_placesSeen ({ frames := 3, cells := 0, slots := 0, locals := 66 } : Room) (va_Pc [.ref p_this, .int x1, .int x2, .int x3] (PC dC dI cI cZ sz ([(p_this, .inr (0, [.ref p_mounts, .ref p_lendings, .ref p_log, .ref p_undos])), (p_mounts, .inr (2, [.int d_mounts_most, .ref p_mounts_cells, .int d_mounts_many])), (p_mounts_cells, .inl (cI, 48, .inl d_mounts_cells))] : va_W))) (va_Qi (fun r (_ : Unit) => r = out) (fun _ t => va_P (dC, dI) vwCl [(p_this, .inr (0, [.ref p_mounts, .ref p_lendings, .ref p_log, .ref p_undos])), (p_mounts, .inr (2, [.int d_mounts_most, .ref p_mounts_cells, .int d_mounts_many])), (p_mounts_cells, .inl (cI, 48, .inl d_mounts_cells))] t.heap ∧ va_D (va_A ([(p_this, .inr (0, [.ref p_mounts, .ref p_lendings, .ref p_log, .ref p_undos])), (p_mounts, .inr (2, [.int d_mounts_most, .ref p_mounts_cells, .int d_mounts_many])), (p_mounts_cells, .inl (cI, 48, .inl d_mounts_cells))] : va_W) sz) [(p_this, .inr (0, [.ref p_mounts, .ref p_lendings, .ref p_log, .ref p_undos])), (p_mounts, .inr (2, [.int d_mounts_most, .ref p_mounts_cells, .int d_mounts_many])), (p_mounts_cells, .inl (cI, 48, .inl d_mounts_cells))]) (va_A ([(p_this, .inr (0, [.ref p_mounts, .ref p_lendings, .ref p_log, .ref p_undos])), (p_mounts, .inr (2, [.int d_mounts_most, .ref p_mounts_cells, .int d_mounts_many])), (p_mounts_cells, .inl (cI, 48, .inl d_mounts_cells))] : va_W) sz)) 0 0 (va_A ([(p_this, .inr (0, [.ref p_mounts, .ref p_lendings, .ref p_log, .ref p_undos])), (p_mounts, .inr (2, [.int d_mounts_most, .ref p_mounts_cells, .int d_mounts_many])), (p_mounts_cells, .inl (cI, 48, .inl d_mounts_cells))] : va_W) sz) := by
  refine Met.ofW (cc := cX0_placesSeen) (maxL := 6) (ret := (some .int)) (by decide) rfl ?_
  intro p e s m args below meth c s₁ B hml hv
  obtain ⟨rfl, hsz, hP, hK, hD0, hN⟩ := hv
  have hx := B.exec
  have hb := B.bytes
  have hr := B.returns
  have hts := atoms_spec (ws := wsX0_placesSeen) B.pre
  have hown : s.vm.findClass RX0 = some m.cls := findClass_of_methodNamed B.named
  have hlocks := B.notSynchronized
  subst hsz
  have hD := hD0.self (sz := s.heap.size)
  generalize hAe : va_A ([(p_this, .inr (0, [.ref p_mounts, .ref p_lendings, .ref p_log, .ref p_undos])), (p_mounts, .inr (2, [.int d_mounts_most, .ref p_mounts_cells, .int d_mounts_many])), (p_mounts_cells, .inl (cI, 48, .inl d_mounts_cells))] : va_W) s.heap.size = A at hD ⊢
  have hA : ∀ q : Nat, s.heap.size ≤ q → A q := fun q h => by rw [← hAe]; exact Or.inr h
  have hS : va_S A s.heap s.heap [] := va_S.rf
  refine W_abs (fun Q hQ => ?_)
  have hl := lv_entry ([.ref p_this, .int x1, .int x2, .int x3]) (n := 6) (Nat.le_of_ble_eq_true rfl)
  rw [lg_entry_eq]
  generalize (lg_sl ([.ref p_this, .int x1, .int x2, .int x3]) ++ List.replicate (6 - (lg_sl ([.ref p_this, .int x1, .int x2, .int x3])).length) Slot.unset).toArray = ls at hl ⊢
  have hl : lv_has ls 6 [(0, .ref p_this), (1, .int x1), (2, .int x2), (3, .int x3)] := hl
  rw [f_X0_placesSeen] at hrun
  refine W_start (ws := [(p_this, .inr (0, [.ref p_mounts, .ref p_lendings, .ref p_log, .ref p_undos])), (p_mounts, .inr (2, [.int d_mounts_most, .ref p_mounts_cells, .int d_mounts_many])), (p_mounts_cells, .inl (cI, 48, .inl d_mounts_cells))]) hP hS (fun H locs hP hS => ?_)
  refine lv_iconst (v := 0) hx hb dX0_placesSeen_0 (by decide) ?_
  refine lv_istore (lv' := [(4, .int 0), (0, .ref p_this), (1, .int x1), (2, .int x2), (3, .int x3)]) hx hb dX0_placesSeen_1 hl (by decide) rfl (fun ls hl => ?_)
  refine lv_iload_n hx hb dX0_placesSeen_3 rfl (lv_at hl 3 rfl) ?_
  refine lv_istore (lv' := [(5, .int x2), (4, .int 0), (0, .ref p_this), (1, .int x1), (2, .int x2), (3, .int x3)]) hx hb dX0_placesSeen_4 hl (by decide) rfl (fun ls hl => ?_)
  have L6 : ∀ (n9_6 : Nat) (x4_6 : Int32) (x5_6 : Int32) (H : Heap) (locs : List Loc), va_P (dC, dI) vwCl [(p_this, .inr (0, [.ref p_mounts, .ref p_lendings, .ref p_log, .ref p_undos])), (p_mounts, .inr (2, [.int d_mounts_most, .ref p_mounts_cells, .int d_mounts_many])), (p_mounts_cells, .inl (cI, 48, .inl d_mounts_cells))] H → va_D A [(p_this, .inr (0, [.ref p_mounts, .ref p_lendings, .ref p_log, .ref p_undos])), (p_mounts, .inr (2, [.int d_mounts_most, .ref p_mounts_cells, .int d_mounts_many])), (p_mounts_cells, .inl (cI, 48, .inl d_mounts_cells))] → va_S A s.heap H locs → ∀ ls : Array Slot, lv_has ls 6 [(0, .ref p_this), (1, .int x1), (3, .int x3), (4, .int x4_6), (5, .int x5_6)] → f_X0_placesSeen_L6 x1 x3 d_mounts_many d_mounts_cells n9_6 x4_6 x5_6 = some out → W p l e ({ frames := 3, cells := 0, slots := 0, locals := 66 } : Room) s m ([.ref p_this, .int x1, .int x2, .int x3] : List Value).toArray below meth c H locs 0 0 Q (F0 m 6 ls []) := by
    intro n9_6
    induction n9_6 with
    | zero =>
      intro x4_6 x5_6 H locs hP hD hS ls hl hrun
      rw [f_X0_placesSeen_L6] at hrun
      cases hrun
    | succ n9_6 ih6 =>
      intro x4_6 x5_6 H locs hP hD hS ls hl hrun
      rw [f_X0_placesSeen_L6] at hrun
      refine lv_iload hx hb dX0_placesSeen_6 (lv_at hl 4 rfl) ?_
      refine lv_iload_n hx hb dX0_placesSeen_8 rfl (lv_at hl 2 rfl) ?_
      refine lv_icmp_gt (tgt := 39) hx hb dX0_placesSeen_9 (by decide) (fun c_9 => ?_) (fun c_9 => ?_)
      · rw [if_pos c_9] at hrun
        refine lv_iload hx hb dX0_placesSeen_39 (lv_at hl 3 rfl) ?_
        have hrun := Option.some.inj hrun
        subst hrun
        rw [hQ]
        exact W.iret (v := x4_6) hx hb hr (fun t ht hW => ⟨⟨x4_6, (), rfl, rfl, by rw [ht]; exact hP, hD⟩, hS.F ht⟩) hS.2.2 dX0_placesSeen_41
      · rw [if_neg c_9] at hrun
        refine lv_iload hx hb dX0_placesSeen_12 (lv_at hl 4 rfl) ?_
        refine lv_bipush (v := 24) hx hb dX0_placesSeen_14 (by decide) ?_
        refine lv_icmp_ge (tgt := 39) hx hb dX0_placesSeen_16 (by decide) (fun c_16 => ?_) (fun c_16 => ?_)
        · rw [if_pos c_16] at hrun
          refine lv_iload hx hb dX0_placesSeen_39 (lv_at hl 3 rfl) ?_
          have hrun := Option.some.inj hrun
          subst hrun
          rw [hQ]
          exact W.iret (v := x4_6) hx hb hr (fun t ht hW => ⟨⟨x4_6, (), rfl, rfl, by rw [ht]; exact hP, hD⟩, hS.F ht⟩) hS.2.2 dX0_placesSeen_41
        · rw [if_neg c_16] at hrun
          refine lv_iload hx hb dX0_placesSeen_19 (lv_at hl 3 rfl) ?_
          refine lv_iconst (v := 1) hx hb dX0_placesSeen_21 (by decide) ?_
          refine lv_aload_n hx hb dX0_placesSeen_22 rfl (lv_at hl 0 rfl) ?_
          refine lv_iload_n hx hb dX0_placesSeen_23 rfl (lv_at hl 1 rfl) ?_
          refine lv_iload hx hb dX0_placesSeen_24 (lv_at hl 4 rfl) ?_
          have hPc : va_P (dC, dI) vwCl [(p_this, .inr (0, [.ref p_mounts, .ref p_lendings, .ref p_log, .ref p_undos])), (p_mounts, .inr (2, [.int d_mounts_most, .ref p_mounts_cells, .int d_mounts_many])), (p_mounts_cells, .inl (cI, 48, .inl d_mounts_cells))] H := hP.sub [0, 1, 2] rfl
          have hDc : va_D A [(p_this, .inr (0, [.ref p_mounts, .ref p_lendings, .ref p_log, .ref p_undos])), (p_mounts, .inr (2, [.int d_mounts_most, .ref p_mounts_cells, .int d_mounts_many])), (p_mounts_cells, .inl (cI, 48, .inl d_mounts_cells))] := hD.sub [0, 1, 2] (by decide) rfl
          have hFc := va_free (wc := [(p_this, .inr (0, [.ref p_mounts, .ref p_lendings, .ref p_log, .ref p_undos])), (p_mounts, .inr (2, [.int d_mounts_most, .ref p_mounts_cells, .int d_mounts_many])), (p_mounts_cells, .inl (cI, 48, .inl d_mounts_cells))]) hD hS hA [0, 1, 2] rfl
          refine va_calli (va_runV (As := [.int x1, .int x5_6]) (rest := [.int 1, .int x4_6]) ⟨hx, hb, hml, hown, hts⟩ (c_X0_placeSeen l dC dI cI cZ H.size p_lendings p_log p_mounts p_mounts_cells p_this p_undos d_mounts_most d_mounts_many d_mounts_cells x1 x5_6 (f_X0_placeSeen d_mounts_many d_mounts_cells x1 x5_6) rfl) (cwV 2 hts gX0_placesSeen_X0_placeSeen rfl rfl rfl (by decide +kernel) ⟨Nat.le_of_ble_eq_true rfl, Nat.le_of_ble_eq_true rfl⟩) ⟨fun a U g mk q => ⟨q.1, PC.mv q.2⟩, va_recv hK hP (ci := 0) (q0 := 0) rfl rfl, fun U hU hW => ⟨rfl, PC.of hU hW hPc hK hDc hN⟩⟩ rfl rfl hl.1 rfl (lv_room (Nat.le_of_ble_eq_true rfl)) dX0_placesSeen_26 ⟨Nat.zero_le _, Nat.zero_le _⟩) hS (fun q _ h => hFc q h) hFc (fun r_26 u t H1 locs ht hvm hw hB hz1 hk1 hS => ?_)
          obtain ⟨hP1, hD1⟩ := hB
          try dsimp only at hw
          rw [hw]
          rw [ht] at hP1
          have hP : va_P (dC, dI) vwCl [(p_this, .inr (0, [.ref p_mounts, .ref p_lendings, .ref p_log, .ref p_undos])), (p_mounts, .inr (2, [.int d_mounts_most, .ref p_mounts_cells, .int d_mounts_many])), (p_mounts_cells, .inl (cI, 48, .inl d_mounts_cells))] H1 := join_ro hP hD [0, 1, 2] rfl hk1 hP1
          clear hPc hDc hFc hk1 hz1 hP1 hD1 ht hvm
          generalize H1 = H at hP hS ⊢
          refine lv_ishl hx hb dX0_placesSeen_29 ?_
          refine lv_ior hx hb dX0_placesSeen_30 ?_
          refine lv_istore (lv' := [(4, .int (x4_6 ||| (1 <<< ((f_X0_placeSeen d_mounts_many d_mounts_cells x1 x5_6) &&& 31)))), (0, .ref p_this), (1, .int x1), (3, .int x3), (5, .int x5_6)]) hx hb dX0_placesSeen_31 hl (by decide) rfl (fun ls hl => ?_)
          refine lv_iinc (v := x5_6 + 1) (lv' := [(5, .int (x5_6 + 1)), (4, .int (x4_6 ||| (1 <<< ((f_X0_placeSeen d_mounts_many d_mounts_cells x1 x5_6) &&& 31)))), (0, .ref p_this), (1, .int x1), (3, .int x3)]) hx hb dX0_placesSeen_33 hl (k := 4) rfl rfl (by decide) rfl (fun ls hl => ?_)
          refine lv_goto (tgt := 6) hx hb dX0_placesSeen_36 (by decide) ?_
          exact ih6 (x4_6 ||| (1 <<< ((f_X0_placeSeen d_mounts_many d_mounts_cells x1 x5_6) &&& 31))) (x5_6 + 1) H locs hP hD hS ls (lv_sub hl [2, 3, 4, 1, 0] rfl) hrun
  exact L6 FU 0 x2 H locs hP hD hS ls (lv_sub hl [2, 3, 5, 1, 0] rfl) hrun
-- SkyListeners$Now.remember
def f_X0_remember_J17 (x1 : Int32) (x2 : Int32) (d_undos_most : Int32) (d_undos_many : Int32) (d_undos_cells : Nat → Int32) : Option (Int32 × (Nat → Int32)) := (some ((f_X2_add d_undos_most d_undos_many d_undos_cells x1 x2 0 0).1, (f_X2_add d_undos_most d_undos_many d_undos_cells x1 x2 0 0).2))
def f_X0_remember (d_undos_most : Int32) (d_undos_many : Int32) (d_undos_cells : Nat → Int32) (x1 : Int32) (x2 : Int32) : Option (Int32 × (Nat → Int32)) := (if (f_X2_isFull d_undos_most d_undos_many) = 0 then (f_X0_remember_J17 x1 x2 d_undos_most d_undos_many d_undos_cells) else ((f_X2_dropFirst d_undos_many d_undos_cells).bind fun q14 => (f_X0_remember_J17 x1 x2 d_undos_most q14.1 q14.2)))
set_option maxHeartbeats 4000000 in
set_option maxRecDepth 100000 in
theorem c_X0_remember (l : Launch) (dC : Nat → ClassId) (dI : Nat → Nat → Nat) (cI cZ : ClassId) (sz : Nat) (p_lendings p_log p_mounts p_this p_undos p_undos_cells : Nat) (d_undos_most : Int32) (d_undos_many : Int32) (d_undos_cells : Nat → Int32) (x1 : Int32) (x2 : Int32) (out : Int32 × (Nat → Int32)) (hrun : f_X0_remember d_undos_most d_undos_many d_undos_cells x1 x2 = some out) : Met l yX0_remember wsX0_remember ({ frames := 3, cells := 0, slots := 0, locals := 69 } : Room) (va_Pc [.ref p_this, .int x1, .int x2] (PC dC dI cI cZ sz ([(p_this, .inr (0, [.ref p_mounts, .ref p_lendings, .ref p_log, .ref p_undos])), (p_undos, .inr (2, [.int d_undos_most, .ref p_undos_cells, .int d_undos_many])), (p_undos_cells, .inl (cI, 48, .inl d_undos_cells))] : va_W))) (va_Qv (fun (_ : Unit) => True) (fun _ t => va_P (dC, dI) vwCl [(p_this, .inr (0, [.ref p_mounts, .ref p_lendings, .ref p_log, .ref p_undos])), (p_undos, .inr (2, [.int d_undos_most, .ref p_undos_cells, .int out.1])), (p_undos_cells, .inl (cI, 48, .inl out.2))] t.heap ∧ va_D (va_A ([(p_this, .inr (0, [.ref p_mounts, .ref p_lendings, .ref p_log, .ref p_undos])), (p_undos, .inr (2, [.int d_undos_most, .ref p_undos_cells, .int d_undos_many])), (p_undos_cells, .inl (cI, 48, .inl d_undos_cells))] : va_W) sz) [(p_this, .inr (0, [.ref p_mounts, .ref p_lendings, .ref p_log, .ref p_undos])), (p_undos, .inr (2, [.int d_undos_most, .ref p_undos_cells, .int out.1])), (p_undos_cells, .inl (cI, 48, .inl out.2))]) (va_A ([(p_this, .inr (0, [.ref p_mounts, .ref p_lendings, .ref p_log, .ref p_undos])), (p_undos, .inr (2, [.int d_undos_most, .ref p_undos_cells, .int d_undos_many])), (p_undos_cells, .inl (cI, 48, .inl d_undos_cells))] : va_W) sz)) 0 0 (va_A ([(p_this, .inr (0, [.ref p_mounts, .ref p_lendings, .ref p_log, .ref p_undos])), (p_undos, .inr (2, [.int d_undos_most, .ref p_undos_cells, .int d_undos_many])), (p_undos_cells, .inl (cI, 48, .inl d_undos_cells))] : va_W) sz) := by
  refine Met.ofW (cc := cX0_remember) (maxL := 3) (ret := none) (by decide) rfl ?_
  intro p e s m args below meth c s₁ B hml hv
  obtain ⟨rfl, hsz, hP, hK, hD0, hN⟩ := hv
  have hx := B.exec
  have hb := B.bytes
  have hr := B.returns
  have hts := atoms_spec (ws := wsX0_remember) B.pre
  have hown : s.vm.findClass RX0 = some m.cls := findClass_of_methodNamed B.named
  have hlocks := B.notSynchronized
  subst hsz
  have hD := hD0.self (sz := s.heap.size)
  generalize hAe : va_A ([(p_this, .inr (0, [.ref p_mounts, .ref p_lendings, .ref p_log, .ref p_undos])), (p_undos, .inr (2, [.int d_undos_most, .ref p_undos_cells, .int d_undos_many])), (p_undos_cells, .inl (cI, 48, .inl d_undos_cells))] : va_W) s.heap.size = A at hD ⊢
  have hA : ∀ q : Nat, s.heap.size ≤ q → A q := fun q h => by rw [← hAe]; exact Or.inr h
  have hS : va_S A s.heap s.heap [] := va_S.rf
  refine W_abs (fun Q hQ => ?_)
  have hl := lv_entry ([.ref p_this, .int x1, .int x2]) (n := 3) (Nat.le_of_ble_eq_true rfl)
  rw [lg_entry_eq]
  generalize (lg_sl ([.ref p_this, .int x1, .int x2]) ++ List.replicate (3 - (lg_sl ([.ref p_this, .int x1, .int x2])).length) Slot.unset).toArray = ls at hl ⊢
  have hl : lv_has ls 3 [(0, .ref p_this), (1, .int x1), (2, .int x2)] := hl
  rw [f_X0_remember] at hrun
  refine W_start (ws := [(p_this, .inr (0, [.ref p_mounts, .ref p_lendings, .ref p_log, .ref p_undos])), (p_undos, .inr (2, [.int d_undos_most, .ref p_undos_cells, .int d_undos_many])), (p_undos_cells, .inl (cI, 48, .inl d_undos_cells))]) hP hS (fun H locs hP hS => ?_)
  have iwX0 : ∀ w ∈ wsX00, w ∈ wsX0_remember := by decide +kernel
  refine lv_aload_n hx hb dX0_remember_0 rfl (lv_at hl 0 rfl) ?_
  refine va_get (D := (dC, dI)) (ci := 0) (v := .ref p_undos) (C := RX0) (T := TX0) (N := 4) hx hb hts iwX0 hown hK hP 0 rfl rfl 3 (by decide) (hts (.fieldLink RX0 26 "SkyListeners$Now" "undos" "LSkyListeners$Rows;") (by decide +kernel)) (fun _ h9 => h9) rfl dX0_remember_1 ?_
  have hPc : va_P (dC, dI) vwCl [(p_undos, .inr (2, [.int d_undos_most, .ref p_undos_cells, .int d_undos_many]))] H := hP.sub [1] rfl
  have hDc : va_D A [(p_undos, .inr (2, [.int d_undos_most, .ref p_undos_cells, .int d_undos_many]))] := hD.sub [1] (by decide) rfl
  have hFc := va_free (wc := [(p_undos, .inr (2, [.int d_undos_most, .ref p_undos_cells, .int d_undos_many]))]) hD hS hA [1] rfl
  refine va_calli (va_runV (As := []) (rest := []) ⟨hx, hb, hml, hown, hts⟩ (c_X2_isFull l dC dI cI cZ H.size p_undos_cells p_undos d_undos_most d_undos_many (f_X2_isFull d_undos_most d_undos_many) rfl) (cwV 0 hts gX0_remember_X2_isFull rfl rfl rfl (by decide +kernel) ⟨Nat.le_of_ble_eq_true rfl, Nat.le_of_ble_eq_true rfl⟩) ⟨fun a U g mk q => ⟨q.1, PC.mv q.2⟩, va_recv hK hP (ci := 2) (q0 := 1) rfl rfl, fun U hU hW => ⟨rfl, PC.of hU hW hPc hK hDc hN⟩⟩ rfl rfl hl.1 rfl (lv_room (Nat.le_of_ble_eq_true rfl)) dX0_remember_4 ⟨Nat.zero_le _, Nat.zero_le _⟩) hS (fun q _ h => hFc q h) hFc (fun r_4 u t H1 locs ht hvm hw hB hz1 hk1 hS => ?_)
  obtain ⟨hP1, hD1⟩ := hB
  try dsimp only at hw
  rw [hw]
  rw [ht] at hP1
  have hP : va_P (dC, dI) vwCl [(p_this, .inr (0, [.ref p_mounts, .ref p_lendings, .ref p_log, .ref p_undos])), (p_undos, .inr (2, [.int d_undos_most, .ref p_undos_cells, .int d_undos_many])), (p_undos_cells, .inl (cI, 48, .inl d_undos_cells))] H1 := join_ro hP hD [1] rfl hk1 hP1
  clear hPc hDc hFc hk1 hz1 hP1 hD1 ht hvm
  generalize H1 = H at hP hS ⊢
  have J17 : ∀ (d_undos_many_17 : Int32) (d_undos_cells_17 : Nat → Int32) (H : Heap) (locs : List Loc), va_P (dC, dI) vwCl [(p_this, .inr (0, [.ref p_mounts, .ref p_lendings, .ref p_log, .ref p_undos])), (p_undos, .inr (2, [.int d_undos_most, .ref p_undos_cells, .int d_undos_many_17])), (p_undos_cells, .inl (cI, 48, .inl d_undos_cells_17))] H → va_D A [(p_this, .inr (0, [.ref p_mounts, .ref p_lendings, .ref p_log, .ref p_undos])), (p_undos, .inr (2, [.int d_undos_most, .ref p_undos_cells, .int d_undos_many_17])), (p_undos_cells, .inl (cI, 48, .inl d_undos_cells_17))] → va_S A s.heap H locs → ∀ ls : Array Slot, lv_has ls 3 [(0, .ref p_this), (1, .int x1), (2, .int x2)] → f_X0_remember_J17 x1 x2 d_undos_most d_undos_many_17 d_undos_cells_17 = some out → W p l e ({ frames := 3, cells := 0, slots := 0, locals := 69 } : Room) s m ([.ref p_this, .int x1, .int x2] : List Value).toArray below meth c H locs 0 0 Q (F0 m 17 ls []) := by
    intro d_undos_many_17 d_undos_cells_17 H locs hP hD hS ls hl hrun
    rw [f_X0_remember_J17] at hrun
    refine lv_aload_n hx hb dX0_remember_17 rfl (lv_at hl 0 rfl) ?_
    refine va_get (D := (dC, dI)) (ci := 0) (v := .ref p_undos) (C := RX0) (T := TX0) (N := 4) hx hb hts iwX0 hown hK hP 0 rfl rfl 3 (by decide) (hts (.fieldLink RX0 26 "SkyListeners$Now" "undos" "LSkyListeners$Rows;") (by decide +kernel)) (fun _ h9 => h9) rfl dX0_remember_18 ?_
    refine lv_iload_n hx hb dX0_remember_21 rfl (lv_at hl 1 rfl) ?_
    refine lv_iload_n hx hb dX0_remember_22 rfl (lv_at hl 2 rfl) ?_
    refine lv_iconst (v := 0) hx hb dX0_remember_23 (by decide) ?_
    refine lv_iconst (v := 0) hx hb dX0_remember_24 (by decide) ?_
    have hPc : va_P (dC, dI) vwCl [(p_undos, .inr (2, [.int d_undos_most, .ref p_undos_cells, .int d_undos_many_17])), (p_undos_cells, .inl (cI, 48, .inl d_undos_cells_17))] H := hP.sub [1, 2] rfl
    have hDc : va_D A [(p_undos, .inr (2, [.int d_undos_most, .ref p_undos_cells, .int d_undos_many_17])), (p_undos_cells, .inl (cI, 48, .inl d_undos_cells_17))] := hD.sub [1, 2] (by decide) rfl
    have hFc := va_free (wc := [(p_undos, .inr (2, [.int d_undos_most, .ref p_undos_cells, .int d_undos_many_17])), (p_undos_cells, .inl (cI, 48, .inl d_undos_cells_17))]) hD hS hA [1, 2] rfl
    refine va_callv (va_runV (As := [.int x1, .int x2, .int 0, .int 0]) (rest := []) ⟨hx, hb, hml, hown, hts⟩ (c_X2_add l dC dI cI cZ H.size p_undos_cells p_undos d_undos_most d_undos_many_17 d_undos_cells_17 x1 x2 0 0 (f_X2_add d_undos_most d_undos_many_17 d_undos_cells_17 x1 x2 0 0) rfl) (cwV 4 hts gX0_remember_X2_add rfl rfl rfl (by decide +kernel) ⟨Nat.le_of_ble_eq_true rfl, Nat.le_of_ble_eq_true rfl⟩) ⟨fun a U g mk q => ⟨q.1, PC.mv q.2⟩, va_recv hK hP (ci := 2) (q0 := 1) rfl rfl, fun U hU hW => ⟨rfl, PC.of hU hW hPc hK hDc hN⟩⟩ rfl rfl hl.1 rfl (lv_room (Nat.le_of_ble_eq_true rfl)) dX0_remember_25 ⟨Nat.zero_le _, Nat.zero_le _⟩) hS (fun q _ h => hFc q h) hFc (fun u t H1 locs ht hvm hw hB hz1 hk1 hS => ?_)
    obtain ⟨hP1, hD1⟩ := hB
    rw [ht] at hP1
    obtain ⟨hP, hD⟩ := va_join (wr := [(p_this, .inr (0, [.ref p_mounts, .ref p_lendings, .ref p_log, .ref p_undos]))]) (w1 := [(p_undos, .inr (2, [.int d_undos_most, .ref p_undos_cells, .int ((f_X2_add d_undos_most d_undos_many_17 d_undos_cells_17 x1 x2 0 0).1)])), (p_undos_cells, .inl (cI, 48, .inl ((f_X2_add d_undos_most d_undos_many_17 d_undos_cells_17 x1 x2 0 0).2)))]) hP hD [1, 2] [0] rfl rfl (by decide) (by decide) hk1 hFc hP1 hD1
    have hP : va_P (dC, dI) vwCl [(p_this, .inr (0, [.ref p_mounts, .ref p_lendings, .ref p_log, .ref p_undos])), (p_undos, .inr (2, [.int d_undos_most, .ref p_undos_cells, .int ((f_X2_add d_undos_most d_undos_many_17 d_undos_cells_17 x1 x2 0 0).1)])), (p_undos_cells, .inl (cI, 48, .inl ((f_X2_add d_undos_most d_undos_many_17 d_undos_cells_17 x1 x2 0 0).2)))] H1 := hP.sub [0, 1, 2] rfl
    have hD : va_D A [(p_this, .inr (0, [.ref p_mounts, .ref p_lendings, .ref p_log, .ref p_undos])), (p_undos, .inr (2, [.int d_undos_most, .ref p_undos_cells, .int ((f_X2_add d_undos_most d_undos_many_17 d_undos_cells_17 x1 x2 0 0).1)])), (p_undos_cells, .inl (cI, 48, .inl ((f_X2_add d_undos_most d_undos_many_17 d_undos_cells_17 x1 x2 0 0).2)))] := hD.sub [0, 1, 2] (by decide) rfl
    clear hPc hDc hFc hk1 hz1 hP1 hD1 ht hvm
    generalize H1 = H at hP hS ⊢
    have hrun := Option.some.inj hrun
    subst hrun
    rw [hQ]
    exact W.vret hx hb hr (fun t ht hW => ⟨⟨(), rfl, trivial, by rw [ht]; exact hP, hD⟩, hS.F ht⟩) hS.2.2 dX0_remember_28
  refine lv_if_eq (tgt := 17) hx hb dX0_remember_7 (by decide) (fun c_7 => ?_) (fun c_7 => ?_)
  · rw [if_pos c_7] at hrun
    exact J17 d_undos_many d_undos_cells H locs hP hD hS ls hl hrun
  · rw [if_neg c_7] at hrun
    refine lv_aload_n hx hb dX0_remember_10 rfl (lv_at hl 0 rfl) ?_
    refine va_get (D := (dC, dI)) (ci := 0) (v := .ref p_undos) (C := RX0) (T := TX0) (N := 4) hx hb hts iwX0 hown hK hP 0 rfl rfl 3 (by decide) (hts (.fieldLink RX0 26 "SkyListeners$Now" "undos" "LSkyListeners$Rows;") (by decide +kernel)) (fun _ h9 => h9) rfl dX0_remember_11 ?_
    obtain ⟨q14, hq14, hrun⟩ := bind_out hrun
    have hPc : va_P (dC, dI) vwCl [(p_undos, .inr (2, [.int d_undos_most, .ref p_undos_cells, .int d_undos_many])), (p_undos_cells, .inl (cI, 48, .inl d_undos_cells))] H := hP.sub [1, 2] rfl
    have hDc : va_D A [(p_undos, .inr (2, [.int d_undos_most, .ref p_undos_cells, .int d_undos_many])), (p_undos_cells, .inl (cI, 48, .inl d_undos_cells))] := hD.sub [1, 2] (by decide) rfl
    have hFc := va_free (wc := [(p_undos, .inr (2, [.int d_undos_most, .ref p_undos_cells, .int d_undos_many])), (p_undos_cells, .inl (cI, 48, .inl d_undos_cells))]) hD hS hA [1, 2] rfl
    refine va_callv (va_runV (As := []) (rest := []) ⟨hx, hb, hml, hown, hts⟩ (c_X2_dropFirst l dC dI cI cZ H.size p_undos_cells p_undos d_undos_most d_undos_many d_undos_cells q14 hq14) (cwV 0 hts gX0_remember_X2_dropFirst rfl rfl rfl (by decide +kernel) ⟨Nat.le_of_ble_eq_true rfl, Nat.le_of_ble_eq_true rfl⟩) ⟨fun a U g mk q => ⟨q.1, PC.mv q.2⟩, va_recv hK hP (ci := 2) (q0 := 1) rfl rfl, fun U hU hW => ⟨rfl, PC.of hU hW hPc hK hDc hN⟩⟩ rfl rfl hl.1 rfl (lv_room (Nat.le_of_ble_eq_true rfl)) dX0_remember_14 ⟨Nat.zero_le _, Nat.zero_le _⟩) hS (fun q _ h => hFc q h) hFc (fun u t H1 locs ht hvm hw hB hz1 hk1 hS => ?_)
    obtain ⟨hP1, hD1⟩ := hB
    rw [ht] at hP1
    obtain ⟨hP, hD⟩ := va_join (wr := [(p_this, .inr (0, [.ref p_mounts, .ref p_lendings, .ref p_log, .ref p_undos]))]) (w1 := [(p_undos, .inr (2, [.int d_undos_most, .ref p_undos_cells, .int q14.1])), (p_undos_cells, .inl (cI, 48, .inl q14.2))]) hP hD [1, 2] [0] rfl rfl (by decide) (by decide) hk1 hFc hP1 hD1
    have hP : va_P (dC, dI) vwCl [(p_this, .inr (0, [.ref p_mounts, .ref p_lendings, .ref p_log, .ref p_undos])), (p_undos, .inr (2, [.int d_undos_most, .ref p_undos_cells, .int q14.1])), (p_undos_cells, .inl (cI, 48, .inl q14.2))] H1 := hP.sub [0, 1, 2] rfl
    have hD : va_D A [(p_this, .inr (0, [.ref p_mounts, .ref p_lendings, .ref p_log, .ref p_undos])), (p_undos, .inr (2, [.int d_undos_most, .ref p_undos_cells, .int q14.1])), (p_undos_cells, .inl (cI, 48, .inl q14.2))] := hD.sub [0, 1, 2] (by decide) rfl
    clear hPc hDc hFc hk1 hz1 hP1 hD1 ht hvm
    generalize H1 = H at hP hS ⊢
    exact J17 q14.1 q14.2 H locs hP hD hS ls hl hrun
-- SkyListeners$Now.takeBack
def f_X0_takeBack_J59 (d_undos_many : Int32) (d_lendings_many : Int32) (d_mounts_cells : Nat → Int32) : Int32 × (Nat → Int32) × Int32 := ((d_lendings_many, d_mounts_cells, (f_X2_dropLast d_undos_many)))
def f_X0_takeBack (d_lendings_many : Int32) (d_mounts_many : Int32) (d_mounts_cells : Nat → Int32) (d_undos_many : Int32) (d_undos_cells : Nat → Int32) : Int32 × (Nat → Int32) × Int32 := (if (f_X2_number d_undos_many d_undos_cells (d_undos_many - 1) 0) = (-1) then (f_X0_takeBack_J59 d_undos_many (f_X2_dropLast d_lendings_many) d_mounts_cells) else (f_X0_takeBack_J59 d_undos_many d_lendings_many (f_X2_set d_mounts_many d_mounts_cells (f_X2_number d_undos_many d_undos_cells (d_undos_many - 1) 0) 0 (f_X2_number d_undos_many d_undos_cells (d_undos_many - 1) 1))))
set_option maxHeartbeats 4000000 in
set_option maxRecDepth 100000 in
theorem c_X0_takeBack (l : Launch) (dC : Nat → ClassId) (dI : Nat → Nat → Nat) (cI cZ : ClassId) (sz : Nat) (p_lendings p_lendings_cells p_log p_mounts p_mounts_cells p_this p_undos p_undos_cells : Nat) (d_lendings_most : Int32) (d_lendings_many : Int32) (d_mounts_most : Int32) (d_mounts_many : Int32) (d_mounts_cells : Nat → Int32) (d_undos_most : Int32) (d_undos_many : Int32) (d_undos_cells : Nat → Int32) (out : Int32 × (Nat → Int32) × Int32) (hrun : f_X0_takeBack d_lendings_many d_mounts_many d_mounts_cells d_undos_many d_undos_cells = out) : Met l yX0_takeBack wsX0_takeBack ({ frames := 2, cells := 0, slots := 0, locals := 45 } : Room) (va_Pc [.ref p_this] (PC dC dI cI cZ sz ([(p_this, .inr (0, [.ref p_mounts, .ref p_lendings, .ref p_log, .ref p_undos])), (p_lendings, .inr (2, [.int d_lendings_most, .ref p_lendings_cells, .int d_lendings_many])), (p_mounts, .inr (2, [.int d_mounts_most, .ref p_mounts_cells, .int d_mounts_many])), (p_mounts_cells, .inl (cI, 48, .inl d_mounts_cells)), (p_undos, .inr (2, [.int d_undos_most, .ref p_undos_cells, .int d_undos_many])), (p_undos_cells, .inl (cI, 48, .inl d_undos_cells))] : va_W))) (va_Qv (fun (_ : Unit) => True) (fun _ t => va_P (dC, dI) vwCl [(p_this, .inr (0, [.ref p_mounts, .ref p_lendings, .ref p_log, .ref p_undos])), (p_lendings, .inr (2, [.int d_lendings_most, .ref p_lendings_cells, .int out.1])), (p_mounts, .inr (2, [.int d_mounts_most, .ref p_mounts_cells, .int d_mounts_many])), (p_mounts_cells, .inl (cI, 48, .inl out.2.1)), (p_undos, .inr (2, [.int d_undos_most, .ref p_undos_cells, .int out.2.2])), (p_undos_cells, .inl (cI, 48, .inl d_undos_cells))] t.heap ∧ va_D (va_A ([(p_this, .inr (0, [.ref p_mounts, .ref p_lendings, .ref p_log, .ref p_undos])), (p_lendings, .inr (2, [.int d_lendings_most, .ref p_lendings_cells, .int d_lendings_many])), (p_mounts, .inr (2, [.int d_mounts_most, .ref p_mounts_cells, .int d_mounts_many])), (p_mounts_cells, .inl (cI, 48, .inl d_mounts_cells)), (p_undos, .inr (2, [.int d_undos_most, .ref p_undos_cells, .int d_undos_many])), (p_undos_cells, .inl (cI, 48, .inl d_undos_cells))] : va_W) sz) [(p_this, .inr (0, [.ref p_mounts, .ref p_lendings, .ref p_log, .ref p_undos])), (p_lendings, .inr (2, [.int d_lendings_most, .ref p_lendings_cells, .int out.1])), (p_mounts, .inr (2, [.int d_mounts_most, .ref p_mounts_cells, .int d_mounts_many])), (p_mounts_cells, .inl (cI, 48, .inl out.2.1)), (p_undos, .inr (2, [.int d_undos_most, .ref p_undos_cells, .int out.2.2])), (p_undos_cells, .inl (cI, 48, .inl d_undos_cells))]) (va_A ([(p_this, .inr (0, [.ref p_mounts, .ref p_lendings, .ref p_log, .ref p_undos])), (p_lendings, .inr (2, [.int d_lendings_most, .ref p_lendings_cells, .int d_lendings_many])), (p_mounts, .inr (2, [.int d_mounts_most, .ref p_mounts_cells, .int d_mounts_many])), (p_mounts_cells, .inl (cI, 48, .inl d_mounts_cells)), (p_undos, .inr (2, [.int d_undos_most, .ref p_undos_cells, .int d_undos_many])), (p_undos_cells, .inl (cI, 48, .inl d_undos_cells))] : va_W) sz)) 0 0 (va_A ([(p_this, .inr (0, [.ref p_mounts, .ref p_lendings, .ref p_log, .ref p_undos])), (p_lendings, .inr (2, [.int d_lendings_most, .ref p_lendings_cells, .int d_lendings_many])), (p_mounts, .inr (2, [.int d_mounts_most, .ref p_mounts_cells, .int d_mounts_many])), (p_mounts_cells, .inl (cI, 48, .inl d_mounts_cells)), (p_undos, .inr (2, [.int d_undos_most, .ref p_undos_cells, .int d_undos_many])), (p_undos_cells, .inl (cI, 48, .inl d_undos_cells))] : va_W) sz) := by
  refine Met.ofW (cc := cX0_takeBack) (maxL := 2) (ret := none) (by decide) rfl ?_
  intro p e s m args below meth c s₁ B hml hv
  obtain ⟨rfl, hsz, hP, hK, hD0, hN⟩ := hv
  have hx := B.exec
  have hb := B.bytes
  have hr := B.returns
  have hts := atoms_spec (ws := wsX0_takeBack) B.pre
  have hown : s.vm.findClass RX0 = some m.cls := findClass_of_methodNamed B.named
  have hlocks := B.notSynchronized
  subst hsz
  have hD := hD0.self (sz := s.heap.size)
  generalize hAe : va_A ([(p_this, .inr (0, [.ref p_mounts, .ref p_lendings, .ref p_log, .ref p_undos])), (p_lendings, .inr (2, [.int d_lendings_most, .ref p_lendings_cells, .int d_lendings_many])), (p_mounts, .inr (2, [.int d_mounts_most, .ref p_mounts_cells, .int d_mounts_many])), (p_mounts_cells, .inl (cI, 48, .inl d_mounts_cells)), (p_undos, .inr (2, [.int d_undos_most, .ref p_undos_cells, .int d_undos_many])), (p_undos_cells, .inl (cI, 48, .inl d_undos_cells))] : va_W) s.heap.size = A at hD ⊢
  have hA : ∀ q : Nat, s.heap.size ≤ q → A q := fun q h => by rw [← hAe]; exact Or.inr h
  have hS : va_S A s.heap s.heap [] := va_S.rf
  refine W_abs (fun Q hQ => ?_)
  have hl := lv_entry ([.ref p_this]) (n := 2) (Nat.le_of_ble_eq_true rfl)
  rw [lg_entry_eq]
  generalize (lg_sl ([.ref p_this]) ++ List.replicate (2 - (lg_sl ([.ref p_this])).length) Slot.unset).toArray = ls at hl ⊢
  have hl : lv_has ls 2 [(0, .ref p_this)] := hl
  rw [f_X0_takeBack] at hrun
  refine W_start (ws := [(p_this, .inr (0, [.ref p_mounts, .ref p_lendings, .ref p_log, .ref p_undos])), (p_lendings, .inr (2, [.int d_lendings_most, .ref p_lendings_cells, .int d_lendings_many])), (p_mounts, .inr (2, [.int d_mounts_most, .ref p_mounts_cells, .int d_mounts_many])), (p_mounts_cells, .inl (cI, 48, .inl d_mounts_cells)), (p_undos, .inr (2, [.int d_undos_most, .ref p_undos_cells, .int d_undos_many])), (p_undos_cells, .inl (cI, 48, .inl d_undos_cells))]) hP hS (fun H locs hP hS => ?_)
  have iwX0 : ∀ w ∈ wsX00, w ∈ wsX0_takeBack := by decide +kernel
  have iwX2 : ∀ w ∈ wsX20, w ∈ wsX0_takeBack := by decide +kernel
  refine lv_aload_n hx hb dX0_takeBack_0 rfl (lv_at hl 0 rfl) ?_
  refine va_get (D := (dC, dI)) (ci := 0) (v := .ref p_undos) (C := RX0) (T := TX0) (N := 4) hx hb hts iwX0 hown hK hP 0 rfl rfl 3 (by decide) (hts (.fieldLink RX0 26 "SkyListeners$Now" "undos" "LSkyListeners$Rows;") (by decide +kernel)) (fun _ h9 => h9) rfl dX0_takeBack_1 ?_
  refine lv_aload_n hx hb dX0_takeBack_4 rfl (lv_at hl 0 rfl) ?_
  refine va_get (D := (dC, dI)) (ci := 0) (v := .ref p_undos) (C := RX0) (T := TX0) (N := 4) hx hb hts iwX0 hown hK hP 0 rfl rfl 3 (by decide) (hts (.fieldLink RX0 26 "SkyListeners$Now" "undos" "LSkyListeners$Rows;") (by decide +kernel)) (fun _ h9 => h9) rfl dX0_takeBack_5 ?_
  refine va_get (D := (dC, dI)) (ci := 2) (v := .int d_undos_many) (C := RX2) (T := TX2) (N := 3) hx hb hts iwX2 hown hK hP 4 rfl rfl 2 (by decide) (hts (.fieldLink RX0 64 "SkyListeners$Rows" "many" "I") (by decide +kernel)) (fun _ h9 => h9) rfl dX0_takeBack_8 ?_
  refine lv_iconst (v := 1) hx hb dX0_takeBack_11 (by decide) ?_
  refine lv_isub hx hb dX0_takeBack_12 ?_
  refine lv_iconst (v := 0) hx hb dX0_takeBack_13 (by decide) ?_
  have hPc : va_P (dC, dI) vwCl [(p_undos, .inr (2, [.int d_undos_most, .ref p_undos_cells, .int d_undos_many])), (p_undos_cells, .inl (cI, 48, .inl d_undos_cells))] H := hP.sub [4, 5] rfl
  have hDc : va_D A [(p_undos, .inr (2, [.int d_undos_most, .ref p_undos_cells, .int d_undos_many])), (p_undos_cells, .inl (cI, 48, .inl d_undos_cells))] := hD.sub [4, 5] (by decide) rfl
  have hFc := va_free (wc := [(p_undos, .inr (2, [.int d_undos_most, .ref p_undos_cells, .int d_undos_many])), (p_undos_cells, .inl (cI, 48, .inl d_undos_cells))]) hD hS hA [4, 5] rfl
  refine va_calli (va_runV (As := [.int (d_undos_many - 1), .int 0]) (rest := []) ⟨hx, hb, hml, hown, hts⟩ (c_X2_number l dC dI cI cZ H.size p_undos_cells p_undos d_undos_most d_undos_many d_undos_cells (d_undos_many - 1) 0 (f_X2_number d_undos_many d_undos_cells (d_undos_many - 1) 0) rfl) (cwV 2 hts gX0_takeBack_X2_number rfl rfl rfl (by decide +kernel) ⟨Nat.le_of_ble_eq_true rfl, Nat.le_of_ble_eq_true rfl⟩) ⟨fun a U g mk q => ⟨q.1, PC.mv q.2⟩, va_recv hK hP (ci := 2) (q0 := 4) rfl rfl, fun U hU hW => ⟨rfl, PC.of hU hW hPc hK hDc hN⟩⟩ rfl rfl hl.1 rfl (lv_room (Nat.le_of_ble_eq_true rfl)) dX0_takeBack_14 ⟨Nat.zero_le _, Nat.zero_le _⟩) hS (fun q _ h => hFc q h) hFc (fun r_14 u t H1 locs ht hvm hw hB hz1 hk1 hS => ?_)
  obtain ⟨hP1, hD1⟩ := hB
  try dsimp only at hw
  rw [hw]
  rw [ht] at hP1
  have hP : va_P (dC, dI) vwCl [(p_this, .inr (0, [.ref p_mounts, .ref p_lendings, .ref p_log, .ref p_undos])), (p_lendings, .inr (2, [.int d_lendings_most, .ref p_lendings_cells, .int d_lendings_many])), (p_mounts, .inr (2, [.int d_mounts_most, .ref p_mounts_cells, .int d_mounts_many])), (p_mounts_cells, .inl (cI, 48, .inl d_mounts_cells)), (p_undos, .inr (2, [.int d_undos_most, .ref p_undos_cells, .int d_undos_many])), (p_undos_cells, .inl (cI, 48, .inl d_undos_cells))] H1 := join_ro hP hD [4, 5] rfl hk1 hP1
  clear hPc hDc hFc hk1 hz1 hP1 hD1 ht hvm
  generalize H1 = H at hP hS ⊢
  refine lv_istore_n (lv' := [(1, .int (f_X2_number d_undos_many d_undos_cells (d_undos_many - 1) 0)), (0, .ref p_this)]) hx hb dX0_takeBack_17 rfl hl (by decide) rfl (fun ls hl => ?_)
  refine lv_iload_n hx hb dX0_takeBack_18 rfl (lv_at hl 0 rfl) ?_
  refine lv_iconst (v := (-1)) hx hb dX0_takeBack_19 (by decide) ?_
  have J59 : ∀ (d_lendings_many_59 : Int32) (d_mounts_cells_59 : Nat → Int32) (H : Heap) (locs : List Loc), va_P (dC, dI) vwCl [(p_this, .inr (0, [.ref p_mounts, .ref p_lendings, .ref p_log, .ref p_undos])), (p_lendings, .inr (2, [.int d_lendings_most, .ref p_lendings_cells, .int d_lendings_many_59])), (p_mounts, .inr (2, [.int d_mounts_most, .ref p_mounts_cells, .int d_mounts_many])), (p_mounts_cells, .inl (cI, 48, .inl d_mounts_cells_59)), (p_undos, .inr (2, [.int d_undos_most, .ref p_undos_cells, .int d_undos_many])), (p_undos_cells, .inl (cI, 48, .inl d_undos_cells))] H → va_D A [(p_this, .inr (0, [.ref p_mounts, .ref p_lendings, .ref p_log, .ref p_undos])), (p_lendings, .inr (2, [.int d_lendings_most, .ref p_lendings_cells, .int d_lendings_many_59])), (p_mounts, .inr (2, [.int d_mounts_most, .ref p_mounts_cells, .int d_mounts_many])), (p_mounts_cells, .inl (cI, 48, .inl d_mounts_cells_59)), (p_undos, .inr (2, [.int d_undos_most, .ref p_undos_cells, .int d_undos_many])), (p_undos_cells, .inl (cI, 48, .inl d_undos_cells))] → va_S A s.heap H locs → ∀ ls : Array Slot, lv_has ls 2 [(0, .ref p_this)] → f_X0_takeBack_J59 d_undos_many d_lendings_many_59 d_mounts_cells_59 = out → W p l e ({ frames := 2, cells := 0, slots := 0, locals := 45 } : Room) s m ([.ref p_this] : List Value).toArray below meth c H locs 0 0 Q (F0 m 59 ls []) := by
    intro d_lendings_many_59 d_mounts_cells_59 H locs hP hD hS ls hl hrun
    rw [f_X0_takeBack_J59] at hrun
    refine lv_aload_n hx hb dX0_takeBack_59 rfl (lv_at hl 0 rfl) ?_
    refine va_get (D := (dC, dI)) (ci := 0) (v := .ref p_undos) (C := RX0) (T := TX0) (N := 4) hx hb hts iwX0 hown hK hP 0 rfl rfl 3 (by decide) (hts (.fieldLink RX0 26 "SkyListeners$Now" "undos" "LSkyListeners$Rows;") (by decide +kernel)) (fun _ h9 => h9) rfl dX0_takeBack_60 ?_
    have hPc : va_P (dC, dI) vwCl [(p_undos, .inr (2, [.int d_undos_most, .ref p_undos_cells, .int d_undos_many]))] H := hP.sub [4] rfl
    have hDc : va_D A [(p_undos, .inr (2, [.int d_undos_most, .ref p_undos_cells, .int d_undos_many]))] := hD.sub [4] (by decide) rfl
    have hFc := va_free (wc := [(p_undos, .inr (2, [.int d_undos_most, .ref p_undos_cells, .int d_undos_many]))]) hD hS hA [4] rfl
    refine va_callv (va_runV (As := []) (rest := []) ⟨hx, hb, hml, hown, hts⟩ (c_X2_dropLast l dC dI cI cZ H.size p_undos_cells p_undos d_undos_most d_undos_many (f_X2_dropLast d_undos_many) rfl) (cwV 0 hts gX0_takeBack_X2_dropLast rfl rfl rfl (by decide +kernel) ⟨Nat.le_of_ble_eq_true rfl, Nat.le_of_ble_eq_true rfl⟩) ⟨fun a U g mk q => ⟨q.1, PC.mv q.2⟩, va_recv hK hP (ci := 2) (q0 := 4) rfl rfl, fun U hU hW => ⟨rfl, PC.of hU hW hPc hK hDc hN⟩⟩ rfl rfl hl.1 rfl (lv_room (Nat.le_of_ble_eq_true rfl)) dX0_takeBack_63 ⟨Nat.zero_le _, Nat.zero_le _⟩) hS (fun q _ h => hFc q h) hFc (fun u t H1 locs ht hvm hw hB hz1 hk1 hS => ?_)
    obtain ⟨hP1, hD1⟩ := hB
    rw [ht] at hP1
    obtain ⟨hP, hD⟩ := va_join (wr := [(p_this, .inr (0, [.ref p_mounts, .ref p_lendings, .ref p_log, .ref p_undos])), (p_lendings, .inr (2, [.int d_lendings_most, .ref p_lendings_cells, .int d_lendings_many_59])), (p_mounts, .inr (2, [.int d_mounts_most, .ref p_mounts_cells, .int d_mounts_many])), (p_mounts_cells, .inl (cI, 48, .inl d_mounts_cells_59)), (p_undos_cells, .inl (cI, 48, .inl d_undos_cells))]) (w1 := [(p_undos, .inr (2, [.int d_undos_most, .ref p_undos_cells, .int (f_X2_dropLast d_undos_many)]))]) hP hD [4] [0, 1, 2, 3, 5] rfl rfl (by decide) (by decide) hk1 hFc hP1 hD1
    have hP : va_P (dC, dI) vwCl [(p_this, .inr (0, [.ref p_mounts, .ref p_lendings, .ref p_log, .ref p_undos])), (p_lendings, .inr (2, [.int d_lendings_most, .ref p_lendings_cells, .int d_lendings_many_59])), (p_mounts, .inr (2, [.int d_mounts_most, .ref p_mounts_cells, .int d_mounts_many])), (p_mounts_cells, .inl (cI, 48, .inl d_mounts_cells_59)), (p_undos, .inr (2, [.int d_undos_most, .ref p_undos_cells, .int (f_X2_dropLast d_undos_many)])), (p_undos_cells, .inl (cI, 48, .inl d_undos_cells))] H1 := hP.sub [0, 1, 2, 3, 5, 4] rfl
    have hD : va_D A [(p_this, .inr (0, [.ref p_mounts, .ref p_lendings, .ref p_log, .ref p_undos])), (p_lendings, .inr (2, [.int d_lendings_most, .ref p_lendings_cells, .int d_lendings_many_59])), (p_mounts, .inr (2, [.int d_mounts_most, .ref p_mounts_cells, .int d_mounts_many])), (p_mounts_cells, .inl (cI, 48, .inl d_mounts_cells_59)), (p_undos, .inr (2, [.int d_undos_most, .ref p_undos_cells, .int (f_X2_dropLast d_undos_many)])), (p_undos_cells, .inl (cI, 48, .inl d_undos_cells))] := hD.sub [0, 1, 2, 3, 5, 4] (by decide) rfl
    clear hPc hDc hFc hk1 hz1 hP1 hD1 ht hvm
    generalize H1 = H at hP hS ⊢
    have hrun := hrun
    subst hrun
    rw [hQ]
    exact W.vret hx hb hr (fun t ht hW => ⟨⟨(), rfl, trivial, by rw [ht]; exact hP, hD⟩, hS.F ht⟩) hS.2.2 dX0_takeBack_66
  refine lv_icmp_ne (tgt := 33) hx hb dX0_takeBack_20 (by decide) (fun c_20 => ?_) (fun c_20 => ?_)
  · rw [if_neg c_20] at hrun
    refine lv_aload_n hx hb dX0_takeBack_33 rfl (lv_at hl 1 rfl) ?_
    refine va_get (D := (dC, dI)) (ci := 0) (v := .ref p_mounts) (C := RX0) (T := TX0) (N := 4) hx hb hts iwX0 hown hK hP 0 rfl rfl 0 (by decide) (hts (.fieldLink RX0 14 "SkyListeners$Now" "mounts" "LSkyListeners$Rows;") (by decide +kernel)) (fun _ h9 => h9) rfl dX0_takeBack_34 ?_
    refine lv_iload_n hx hb dX0_takeBack_37 rfl (lv_at hl 0 rfl) ?_
    refine lv_iconst (v := 0) hx hb dX0_takeBack_38 (by decide) ?_
    refine lv_aload_n hx hb dX0_takeBack_39 rfl (lv_at hl 1 rfl) ?_
    refine va_get (D := (dC, dI)) (ci := 0) (v := .ref p_undos) (C := RX0) (T := TX0) (N := 4) hx hb hts iwX0 hown hK hP 0 rfl rfl 3 (by decide) (hts (.fieldLink RX0 26 "SkyListeners$Now" "undos" "LSkyListeners$Rows;") (by decide +kernel)) (fun _ h9 => h9) rfl dX0_takeBack_40 ?_
    refine lv_aload_n hx hb dX0_takeBack_43 rfl (lv_at hl 1 rfl) ?_
    refine va_get (D := (dC, dI)) (ci := 0) (v := .ref p_undos) (C := RX0) (T := TX0) (N := 4) hx hb hts iwX0 hown hK hP 0 rfl rfl 3 (by decide) (hts (.fieldLink RX0 26 "SkyListeners$Now" "undos" "LSkyListeners$Rows;") (by decide +kernel)) (fun _ h9 => h9) rfl dX0_takeBack_44 ?_
    refine va_get (D := (dC, dI)) (ci := 2) (v := .int d_undos_many) (C := RX2) (T := TX2) (N := 3) hx hb hts iwX2 hown hK hP 4 rfl rfl 2 (by decide) (hts (.fieldLink RX0 64 "SkyListeners$Rows" "many" "I") (by decide +kernel)) (fun _ h9 => h9) rfl dX0_takeBack_47 ?_
    refine lv_iconst (v := 1) hx hb dX0_takeBack_50 (by decide) ?_
    refine lv_isub hx hb dX0_takeBack_51 ?_
    refine lv_iconst (v := 1) hx hb dX0_takeBack_52 (by decide) ?_
    have hPc : va_P (dC, dI) vwCl [(p_undos, .inr (2, [.int d_undos_most, .ref p_undos_cells, .int d_undos_many])), (p_undos_cells, .inl (cI, 48, .inl d_undos_cells))] H := hP.sub [4, 5] rfl
    have hDc : va_D A [(p_undos, .inr (2, [.int d_undos_most, .ref p_undos_cells, .int d_undos_many])), (p_undos_cells, .inl (cI, 48, .inl d_undos_cells))] := hD.sub [4, 5] (by decide) rfl
    have hFc := va_free (wc := [(p_undos, .inr (2, [.int d_undos_most, .ref p_undos_cells, .int d_undos_many])), (p_undos_cells, .inl (cI, 48, .inl d_undos_cells))]) hD hS hA [4, 5] rfl
    refine va_calli (va_runV (As := [.int (d_undos_many - 1), .int 1]) (rest := [.int 0, .int (f_X2_number d_undos_many d_undos_cells (d_undos_many - 1) 0), .ref p_mounts]) ⟨hx, hb, hml, hown, hts⟩ (c_X2_number l dC dI cI cZ H.size p_undos_cells p_undos d_undos_most d_undos_many d_undos_cells (d_undos_many - 1) 1 (f_X2_number d_undos_many d_undos_cells (d_undos_many - 1) 1) rfl) (cwV 2 hts gX0_takeBack_X2_number rfl rfl rfl (by decide +kernel) ⟨Nat.le_of_ble_eq_true rfl, Nat.le_of_ble_eq_true rfl⟩) ⟨fun a U g mk q => ⟨q.1, PC.mv q.2⟩, va_recv hK hP (ci := 2) (q0 := 4) rfl rfl, fun U hU hW => ⟨rfl, PC.of hU hW hPc hK hDc hN⟩⟩ rfl rfl hl.1 rfl (lv_room (Nat.le_of_ble_eq_true rfl)) dX0_takeBack_53 ⟨Nat.zero_le _, Nat.zero_le _⟩) hS (fun q _ h => hFc q h) hFc (fun r_53 u t H1 locs ht hvm hw hB hz1 hk1 hS => ?_)
    obtain ⟨hP1, hD1⟩ := hB
    try dsimp only at hw
    rw [hw]
    rw [ht] at hP1
    have hP : va_P (dC, dI) vwCl [(p_this, .inr (0, [.ref p_mounts, .ref p_lendings, .ref p_log, .ref p_undos])), (p_lendings, .inr (2, [.int d_lendings_most, .ref p_lendings_cells, .int d_lendings_many])), (p_mounts, .inr (2, [.int d_mounts_most, .ref p_mounts_cells, .int d_mounts_many])), (p_mounts_cells, .inl (cI, 48, .inl d_mounts_cells)), (p_undos, .inr (2, [.int d_undos_most, .ref p_undos_cells, .int d_undos_many])), (p_undos_cells, .inl (cI, 48, .inl d_undos_cells))] H1 := join_ro hP hD [4, 5] rfl hk1 hP1
    clear hPc hDc hFc hk1 hz1 hP1 hD1 ht hvm
    generalize H1 = H at hP hS ⊢
    have hPc : va_P (dC, dI) vwCl [(p_mounts, .inr (2, [.int d_mounts_most, .ref p_mounts_cells, .int d_mounts_many])), (p_mounts_cells, .inl (cI, 48, .inl d_mounts_cells))] H := hP.sub [2, 3] rfl
    have hDc : va_D A [(p_mounts, .inr (2, [.int d_mounts_most, .ref p_mounts_cells, .int d_mounts_many])), (p_mounts_cells, .inl (cI, 48, .inl d_mounts_cells))] := hD.sub [2, 3] (by decide) rfl
    have hFc := va_free (wc := [(p_mounts, .inr (2, [.int d_mounts_most, .ref p_mounts_cells, .int d_mounts_many])), (p_mounts_cells, .inl (cI, 48, .inl d_mounts_cells))]) hD hS hA [2, 3] rfl
    refine va_callv (va_runV (As := [.int (f_X2_number d_undos_many d_undos_cells (d_undos_many - 1) 0), .int 0, .int (f_X2_number d_undos_many d_undos_cells (d_undos_many - 1) 1)]) (rest := []) ⟨hx, hb, hml, hown, hts⟩ (c_X2_set l dC dI cI cZ H.size p_mounts_cells p_mounts d_mounts_most d_mounts_many d_mounts_cells (f_X2_number d_undos_many d_undos_cells (d_undos_many - 1) 0) 0 (f_X2_number d_undos_many d_undos_cells (d_undos_many - 1) 1) (f_X2_set d_mounts_many d_mounts_cells (f_X2_number d_undos_many d_undos_cells (d_undos_many - 1) 0) 0 (f_X2_number d_undos_many d_undos_cells (d_undos_many - 1) 1)) rfl) (cwV 3 hts gX0_takeBack_X2_set rfl rfl rfl (by decide +kernel) ⟨Nat.le_of_ble_eq_true rfl, Nat.le_of_ble_eq_true rfl⟩) ⟨fun a U g mk q => ⟨q.1, PC.mv q.2⟩, va_recv hK hP (ci := 2) (q0 := 2) rfl rfl, fun U hU hW => ⟨rfl, PC.of hU hW hPc hK hDc hN⟩⟩ rfl rfl hl.1 rfl (lv_room (Nat.le_of_ble_eq_true rfl)) dX0_takeBack_56 ⟨Nat.zero_le _, Nat.zero_le _⟩) hS (fun q _ h => hFc q h) hFc (fun u t H1 locs ht hvm hw hB hz1 hk1 hS => ?_)
    obtain ⟨hP1, hD1⟩ := hB
    rw [ht] at hP1
    obtain ⟨hP, hD⟩ := va_join (wr := [(p_this, .inr (0, [.ref p_mounts, .ref p_lendings, .ref p_log, .ref p_undos])), (p_lendings, .inr (2, [.int d_lendings_most, .ref p_lendings_cells, .int d_lendings_many])), (p_undos, .inr (2, [.int d_undos_most, .ref p_undos_cells, .int d_undos_many])), (p_undos_cells, .inl (cI, 48, .inl d_undos_cells))]) (w1 := [(p_mounts, .inr (2, [.int d_mounts_most, .ref p_mounts_cells, .int d_mounts_many])), (p_mounts_cells, .inl (cI, 48, .inl (f_X2_set d_mounts_many d_mounts_cells (f_X2_number d_undos_many d_undos_cells (d_undos_many - 1) 0) 0 (f_X2_number d_undos_many d_undos_cells (d_undos_many - 1) 1))))]) hP hD [2, 3] [0, 1, 4, 5] rfl rfl (by decide) (by decide) hk1 hFc hP1 hD1
    have hP : va_P (dC, dI) vwCl [(p_this, .inr (0, [.ref p_mounts, .ref p_lendings, .ref p_log, .ref p_undos])), (p_lendings, .inr (2, [.int d_lendings_most, .ref p_lendings_cells, .int d_lendings_many])), (p_mounts, .inr (2, [.int d_mounts_most, .ref p_mounts_cells, .int d_mounts_many])), (p_mounts_cells, .inl (cI, 48, .inl (f_X2_set d_mounts_many d_mounts_cells (f_X2_number d_undos_many d_undos_cells (d_undos_many - 1) 0) 0 (f_X2_number d_undos_many d_undos_cells (d_undos_many - 1) 1)))), (p_undos, .inr (2, [.int d_undos_most, .ref p_undos_cells, .int d_undos_many])), (p_undos_cells, .inl (cI, 48, .inl d_undos_cells))] H1 := hP.sub [0, 1, 4, 5, 2, 3] rfl
    have hD : va_D A [(p_this, .inr (0, [.ref p_mounts, .ref p_lendings, .ref p_log, .ref p_undos])), (p_lendings, .inr (2, [.int d_lendings_most, .ref p_lendings_cells, .int d_lendings_many])), (p_mounts, .inr (2, [.int d_mounts_most, .ref p_mounts_cells, .int d_mounts_many])), (p_mounts_cells, .inl (cI, 48, .inl (f_X2_set d_mounts_many d_mounts_cells (f_X2_number d_undos_many d_undos_cells (d_undos_many - 1) 0) 0 (f_X2_number d_undos_many d_undos_cells (d_undos_many - 1) 1)))), (p_undos, .inr (2, [.int d_undos_most, .ref p_undos_cells, .int d_undos_many])), (p_undos_cells, .inl (cI, 48, .inl d_undos_cells))] := hD.sub [0, 1, 4, 5, 2, 3] (by decide) rfl
    clear hPc hDc hFc hk1 hz1 hP1 hD1 ht hvm
    generalize H1 = H at hP hS ⊢
    exact J59 d_lendings_many (f_X2_set d_mounts_many d_mounts_cells (f_X2_number d_undos_many d_undos_cells (d_undos_many - 1) 0) 0 (f_X2_number d_undos_many d_undos_cells (d_undos_many - 1) 1)) H locs hP hD hS ls (lv_sub hl [1] rfl) hrun
  · rw [if_pos c_20] at hrun
    refine lv_aload_n hx hb dX0_takeBack_23 rfl (lv_at hl 1 rfl) ?_
    refine va_get (D := (dC, dI)) (ci := 0) (v := .ref p_lendings) (C := RX0) (T := TX0) (N := 4) hx hb hts iwX0 hown hK hP 0 rfl rfl 1 (by decide) (hts (.fieldLink RX0 20 "SkyListeners$Now" "lendings" "LSkyListeners$Rows;") (by decide +kernel)) (fun _ h9 => h9) rfl dX0_takeBack_24 ?_
    have hPc : va_P (dC, dI) vwCl [(p_lendings, .inr (2, [.int d_lendings_most, .ref p_lendings_cells, .int d_lendings_many]))] H := hP.sub [1] rfl
    have hDc : va_D A [(p_lendings, .inr (2, [.int d_lendings_most, .ref p_lendings_cells, .int d_lendings_many]))] := hD.sub [1] (by decide) rfl
    have hFc := va_free (wc := [(p_lendings, .inr (2, [.int d_lendings_most, .ref p_lendings_cells, .int d_lendings_many]))]) hD hS hA [1] rfl
    refine va_callv (va_runV (As := []) (rest := []) ⟨hx, hb, hml, hown, hts⟩ (c_X2_dropLast l dC dI cI cZ H.size p_lendings_cells p_lendings d_lendings_most d_lendings_many (f_X2_dropLast d_lendings_many) rfl) (cwV 0 hts gX0_takeBack_X2_dropLast rfl rfl rfl (by decide +kernel) ⟨Nat.le_of_ble_eq_true rfl, Nat.le_of_ble_eq_true rfl⟩) ⟨fun a U g mk q => ⟨q.1, PC.mv q.2⟩, va_recv hK hP (ci := 2) (q0 := 1) rfl rfl, fun U hU hW => ⟨rfl, PC.of hU hW hPc hK hDc hN⟩⟩ rfl rfl hl.1 rfl (lv_room (Nat.le_of_ble_eq_true rfl)) dX0_takeBack_27 ⟨Nat.zero_le _, Nat.zero_le _⟩) hS (fun q _ h => hFc q h) hFc (fun u t H1 locs ht hvm hw hB hz1 hk1 hS => ?_)
    obtain ⟨hP1, hD1⟩ := hB
    rw [ht] at hP1
    obtain ⟨hP, hD⟩ := va_join (wr := [(p_this, .inr (0, [.ref p_mounts, .ref p_lendings, .ref p_log, .ref p_undos])), (p_mounts, .inr (2, [.int d_mounts_most, .ref p_mounts_cells, .int d_mounts_many])), (p_mounts_cells, .inl (cI, 48, .inl d_mounts_cells)), (p_undos, .inr (2, [.int d_undos_most, .ref p_undos_cells, .int d_undos_many])), (p_undos_cells, .inl (cI, 48, .inl d_undos_cells))]) (w1 := [(p_lendings, .inr (2, [.int d_lendings_most, .ref p_lendings_cells, .int (f_X2_dropLast d_lendings_many)]))]) hP hD [1] [0, 2, 3, 4, 5] rfl rfl (by decide) (by decide) hk1 hFc hP1 hD1
    have hP : va_P (dC, dI) vwCl [(p_this, .inr (0, [.ref p_mounts, .ref p_lendings, .ref p_log, .ref p_undos])), (p_lendings, .inr (2, [.int d_lendings_most, .ref p_lendings_cells, .int (f_X2_dropLast d_lendings_many)])), (p_mounts, .inr (2, [.int d_mounts_most, .ref p_mounts_cells, .int d_mounts_many])), (p_mounts_cells, .inl (cI, 48, .inl d_mounts_cells)), (p_undos, .inr (2, [.int d_undos_most, .ref p_undos_cells, .int d_undos_many])), (p_undos_cells, .inl (cI, 48, .inl d_undos_cells))] H1 := hP.sub [0, 5, 1, 2, 3, 4] rfl
    have hD : va_D A [(p_this, .inr (0, [.ref p_mounts, .ref p_lendings, .ref p_log, .ref p_undos])), (p_lendings, .inr (2, [.int d_lendings_most, .ref p_lendings_cells, .int (f_X2_dropLast d_lendings_many)])), (p_mounts, .inr (2, [.int d_mounts_most, .ref p_mounts_cells, .int d_mounts_many])), (p_mounts_cells, .inl (cI, 48, .inl d_mounts_cells)), (p_undos, .inr (2, [.int d_undos_most, .ref p_undos_cells, .int d_undos_many])), (p_undos_cells, .inl (cI, 48, .inl d_undos_cells))] := hD.sub [0, 5, 1, 2, 3, 4] (by decide) rfl
    clear hPc hDc hFc hk1 hz1 hP1 hD1 ht hvm
    generalize H1 = H at hP hS ⊢
    refine lv_goto (tgt := 59) hx hb dX0_takeBack_30 (by decide) ?_
    exact J59 (f_X2_dropLast d_lendings_many) d_mounts_cells H locs hP hD hS ls (lv_sub hl [1] rfl) hrun
-- SkyListeners$Now.firstLentTwice
def f_X0_firstLentTwice_X80 (K2 : Int32 → Option (Int32)) (x1 : Int32) (d_lendings_many : Int32) (d_lendings_cells : Nat → Int32) : Option (Int32) := (K2 (x1 + 1))
def f_X0_firstLentTwice_J74 (K15 : Int32 → Option (Int32)) (x1 : Int32) (x2 : Int32) (d_lendings_many : Int32) (d_lendings_cells : Nat → Int32) : Option (Int32) := (K15 (x2 + 1))
def f_X0_firstLentTwice_J46 (K15 : Int32 → Option (Int32)) (x1 : Int32) (x2 : Int32) (d_lendings_many : Int32) (d_lendings_cells : Nat → Int32) (t0 : Int32) : Option (Int32) := (if t0 = 0 then (f_X0_firstLentTwice_J74 K15 x1 x2 d_lendings_many d_lendings_cells) else (if (f_X2_number d_lendings_many d_lendings_cells x1 1) = (f_X2_number d_lendings_many d_lendings_cells x2 1) then (some x1) else (f_X0_firstLentTwice_J74 K15 x1 x2 d_lendings_many d_lendings_cells)))
def f_X0_firstLentTwice_L15 (K80 : Option (Int32)) (x1 : Int32) (d_lendings_many : Int32) (d_lendings_cells : Nat → Int32) : Nat → Int32 → Option (Int32)
  | 0, _ => none
  | n9 + 1, x2 => (if x1 ≤ x2 then K80 else (if (f_X2_number d_lendings_many d_lendings_cells x1 0) = (f_X2_number d_lendings_many d_lendings_cells x2 0) then (f_X0_firstLentTwice_J46 (f_X0_firstLentTwice_L15 K80 x1 d_lendings_many d_lendings_cells n9) x1 x2 d_lendings_many d_lendings_cells 1) else (f_X0_firstLentTwice_J46 (f_X0_firstLentTwice_L15 K80 x1 d_lendings_many d_lendings_cells n9) x1 x2 d_lendings_many d_lendings_cells 0)))
def f_X0_firstLentTwice_L2 (d_lendings_many : Int32) (d_lendings_cells : Nat → Int32) : Nat → Int32 → Option (Int32)
  | 0, _ => none
  | n9 + 1, x1 => (if d_lendings_many ≤ x1 then (some (-9)) else (f_X0_firstLentTwice_L15 (f_X0_firstLentTwice_X80 (f_X0_firstLentTwice_L2  d_lendings_many d_lendings_cells n9) x1 d_lendings_many d_lendings_cells) x1 d_lendings_many d_lendings_cells FU 0))
def f_X0_firstLentTwice (d_lendings_many : Int32) (d_lendings_cells : Nat → Int32) : Option (Int32) := (f_X0_firstLentTwice_L2 d_lendings_many d_lendings_cells FU 1)
set_option maxHeartbeats 4000000 in
set_option maxRecDepth 100000 in
theorem c_X0_firstLentTwice (l : Launch) (dC : Nat → ClassId) (dI : Nat → Nat → Nat) (cI cZ : ClassId) (sz : Nat) (p_lendings p_lendings_cells p_log p_mounts p_this p_undos : Nat) (d_lendings_most : Int32) (d_lendings_many : Int32) (d_lendings_cells : Nat → Int32) (out : Int32) (hrun : f_X0_firstLentTwice d_lendings_many d_lendings_cells = some out) : Met l yX0_firstLentTwice wsX0_firstLentTwice ({ frames := 2, cells := 0, slots := 0, locals := 44 } : Room) (va_Pc [.ref p_this] (PC dC dI cI cZ sz ([(p_this, .inr (0, [.ref p_mounts, .ref p_lendings, .ref p_log, .ref p_undos])), (p_lendings, .inr (2, [.int d_lendings_most, .ref p_lendings_cells, .int d_lendings_many])), (p_lendings_cells, .inl (cI, 48, .inl d_lendings_cells))] : va_W))) (va_Qi (fun r (_ : Unit) => r = out) (fun _ t => va_P (dC, dI) vwCl [(p_this, .inr (0, [.ref p_mounts, .ref p_lendings, .ref p_log, .ref p_undos])), (p_lendings, .inr (2, [.int d_lendings_most, .ref p_lendings_cells, .int d_lendings_many])), (p_lendings_cells, .inl (cI, 48, .inl d_lendings_cells))] t.heap ∧ va_D (va_A ([(p_this, .inr (0, [.ref p_mounts, .ref p_lendings, .ref p_log, .ref p_undos])), (p_lendings, .inr (2, [.int d_lendings_most, .ref p_lendings_cells, .int d_lendings_many])), (p_lendings_cells, .inl (cI, 48, .inl d_lendings_cells))] : va_W) sz) [(p_this, .inr (0, [.ref p_mounts, .ref p_lendings, .ref p_log, .ref p_undos])), (p_lendings, .inr (2, [.int d_lendings_most, .ref p_lendings_cells, .int d_lendings_many])), (p_lendings_cells, .inl (cI, 48, .inl d_lendings_cells))]) (va_A ([(p_this, .inr (0, [.ref p_mounts, .ref p_lendings, .ref p_log, .ref p_undos])), (p_lendings, .inr (2, [.int d_lendings_most, .ref p_lendings_cells, .int d_lendings_many])), (p_lendings_cells, .inl (cI, 48, .inl d_lendings_cells))] : va_W) sz)) 0 0 (va_A ([(p_this, .inr (0, [.ref p_mounts, .ref p_lendings, .ref p_log, .ref p_undos])), (p_lendings, .inr (2, [.int d_lendings_most, .ref p_lendings_cells, .int d_lendings_many])), (p_lendings_cells, .inl (cI, 48, .inl d_lendings_cells))] : va_W) sz) := by
  refine Met.ofW (cc := cX0_firstLentTwice) (maxL := 4) (ret := (some .int)) (by decide) rfl ?_
  intro p e s m args below meth c s₁ B hml hv
  obtain ⟨rfl, hsz, hP, hK, hD0, hN⟩ := hv
  have hx := B.exec
  have hb := B.bytes
  have hr := B.returns
  have hts := atoms_spec (ws := wsX0_firstLentTwice) B.pre
  have hown : s.vm.findClass RX0 = some m.cls := findClass_of_methodNamed B.named
  have hlocks := B.notSynchronized
  subst hsz
  have hD := hD0.self (sz := s.heap.size)
  generalize hAe : va_A ([(p_this, .inr (0, [.ref p_mounts, .ref p_lendings, .ref p_log, .ref p_undos])), (p_lendings, .inr (2, [.int d_lendings_most, .ref p_lendings_cells, .int d_lendings_many])), (p_lendings_cells, .inl (cI, 48, .inl d_lendings_cells))] : va_W) s.heap.size = A at hD ⊢
  have hA : ∀ q : Nat, s.heap.size ≤ q → A q := fun q h => by rw [← hAe]; exact Or.inr h
  have hS : va_S A s.heap s.heap [] := va_S.rf
  refine W_abs (fun Q hQ => ?_)
  have hl := lv_entry ([.ref p_this]) (n := 4) (Nat.le_of_ble_eq_true rfl)
  rw [lg_entry_eq]
  generalize (lg_sl ([.ref p_this]) ++ List.replicate (4 - (lg_sl ([.ref p_this])).length) Slot.unset).toArray = ls at hl ⊢
  have hl : lv_has ls 4 [(0, .ref p_this)] := hl
  rw [f_X0_firstLentTwice] at hrun
  refine W_start (ws := [(p_this, .inr (0, [.ref p_mounts, .ref p_lendings, .ref p_log, .ref p_undos])), (p_lendings, .inr (2, [.int d_lendings_most, .ref p_lendings_cells, .int d_lendings_many])), (p_lendings_cells, .inl (cI, 48, .inl d_lendings_cells))]) hP hS (fun H locs hP hS => ?_)
  have iwX0 : ∀ w ∈ wsX00, w ∈ wsX0_firstLentTwice := by decide +kernel
  have iwX2 : ∀ w ∈ wsX20, w ∈ wsX0_firstLentTwice := by decide +kernel
  refine lv_iconst (v := 1) hx hb dX0_firstLentTwice_0 (by decide) ?_
  refine lv_istore_n (lv' := [(1, .int 1), (0, .ref p_this)]) hx hb dX0_firstLentTwice_1 rfl hl (by decide) rfl (fun ls hl => ?_)
  have L2 : ∀ (n9_2 : Nat) (x1_2 : Int32) (H : Heap) (locs : List Loc), va_P (dC, dI) vwCl [(p_this, .inr (0, [.ref p_mounts, .ref p_lendings, .ref p_log, .ref p_undos])), (p_lendings, .inr (2, [.int d_lendings_most, .ref p_lendings_cells, .int d_lendings_many])), (p_lendings_cells, .inl (cI, 48, .inl d_lendings_cells))] H → va_D A [(p_this, .inr (0, [.ref p_mounts, .ref p_lendings, .ref p_log, .ref p_undos])), (p_lendings, .inr (2, [.int d_lendings_most, .ref p_lendings_cells, .int d_lendings_many])), (p_lendings_cells, .inl (cI, 48, .inl d_lendings_cells))] → va_S A s.heap H locs → ∀ ls : Array Slot, lv_has ls 4 [(0, .ref p_this), (1, .int x1_2)] → f_X0_firstLentTwice_L2 d_lendings_many d_lendings_cells n9_2 x1_2 = some out → W p l e ({ frames := 2, cells := 0, slots := 0, locals := 44 } : Room) s m ([.ref p_this] : List Value).toArray below meth c H locs 0 0 Q (F0 m 2 ls []) := by
    intro n9_2
    induction n9_2 with
    | zero =>
      intro x1_2 H locs hP hD hS ls hl hrun
      rw [f_X0_firstLentTwice_L2] at hrun
      cases hrun
    | succ n9_2 ih2 =>
      intro x1_2 H locs hP hD hS ls hl hrun
      rw [f_X0_firstLentTwice_L2] at hrun
      refine lv_iload_n hx hb dX0_firstLentTwice_2 rfl (lv_at hl 1 rfl) ?_
      refine lv_aload_n hx hb dX0_firstLentTwice_3 rfl (lv_at hl 0 rfl) ?_
      refine va_get (D := (dC, dI)) (ci := 0) (v := .ref p_lendings) (C := RX0) (T := TX0) (N := 4) hx hb hts iwX0 hown hK hP 0 rfl rfl 1 (by decide) (hts (.fieldLink RX0 20 "SkyListeners$Now" "lendings" "LSkyListeners$Rows;") (by decide +kernel)) (fun _ h9 => h9) rfl dX0_firstLentTwice_4 ?_
      refine va_get (D := (dC, dI)) (ci := 2) (v := .int d_lendings_many) (C := RX2) (T := TX2) (N := 3) hx hb hts iwX2 hown hK hP 1 rfl rfl 2 (by decide) (hts (.fieldLink RX0 64 "SkyListeners$Rows" "many" "I") (by decide +kernel)) (fun _ h9 => h9) rfl dX0_firstLentTwice_7 ?_
      refine lv_icmp_ge (tgt := 86) hx hb dX0_firstLentTwice_10 (by decide) (fun c_10 => ?_) (fun c_10 => ?_)
      · rw [if_pos c_10] at hrun
        refine lv_bipush (v := (-9)) hx hb dX0_firstLentTwice_86 (by decide) ?_
        have hrun := Option.some.inj hrun
        subst hrun
        rw [hQ]
        exact W.iret (v := (-9)) hx hb hr (fun t ht hW => ⟨⟨(-9), (), rfl, rfl, by rw [ht]; exact hP, hD⟩, hS.F ht⟩) hS.2.2 dX0_firstLentTwice_88
      · rw [if_neg c_10] at hrun
        refine lv_iconst (v := 0) hx hb dX0_firstLentTwice_13 (by decide) ?_
        refine lv_istore_n (lv' := [(2, .int 0), (0, .ref p_this), (1, .int x1_2)]) hx hb dX0_firstLentTwice_14 rfl hl (by decide) rfl (fun ls hl => ?_)
        have X80 : ∀  (H : Heap) (locs : List Loc), va_P (dC, dI) vwCl [(p_this, .inr (0, [.ref p_mounts, .ref p_lendings, .ref p_log, .ref p_undos])), (p_lendings, .inr (2, [.int d_lendings_most, .ref p_lendings_cells, .int d_lendings_many])), (p_lendings_cells, .inl (cI, 48, .inl d_lendings_cells))] H → va_D A [(p_this, .inr (0, [.ref p_mounts, .ref p_lendings, .ref p_log, .ref p_undos])), (p_lendings, .inr (2, [.int d_lendings_most, .ref p_lendings_cells, .int d_lendings_many])), (p_lendings_cells, .inl (cI, 48, .inl d_lendings_cells))] → va_S A s.heap H locs → ∀ ls : Array Slot, lv_has ls 4 [(0, .ref p_this), (1, .int x1_2)] → f_X0_firstLentTwice_X80 (f_X0_firstLentTwice_L2 d_lendings_many d_lendings_cells n9_2) x1_2 d_lendings_many d_lendings_cells = some out → W p l e ({ frames := 2, cells := 0, slots := 0, locals := 44 } : Room) s m ([.ref p_this] : List Value).toArray below meth c H locs 0 0 Q (F0 m 80 ls []) := by
          intro H locs hP hD hS ls hl hrun
          rw [f_X0_firstLentTwice_X80] at hrun
          refine lv_iinc (v := x1_2 + 1) (lv' := [(1, .int (x1_2 + 1)), (0, .ref p_this)]) hx hb dX0_firstLentTwice_80 hl (k := 1) rfl rfl (by decide) rfl (fun ls hl => ?_)
          refine lv_goto (tgt := 2) hx hb dX0_firstLentTwice_83 (by decide) ?_
          exact ih2 (x1_2 + 1) H locs hP hD hS ls (lv_sub hl [1, 0] rfl) hrun
        have L15 : ∀ (n9_15 : Nat) (x2_15 : Int32) (H : Heap) (locs : List Loc), va_P (dC, dI) vwCl [(p_this, .inr (0, [.ref p_mounts, .ref p_lendings, .ref p_log, .ref p_undos])), (p_lendings, .inr (2, [.int d_lendings_most, .ref p_lendings_cells, .int d_lendings_many])), (p_lendings_cells, .inl (cI, 48, .inl d_lendings_cells))] H → va_D A [(p_this, .inr (0, [.ref p_mounts, .ref p_lendings, .ref p_log, .ref p_undos])), (p_lendings, .inr (2, [.int d_lendings_most, .ref p_lendings_cells, .int d_lendings_many])), (p_lendings_cells, .inl (cI, 48, .inl d_lendings_cells))] → va_S A s.heap H locs → ∀ ls : Array Slot, lv_has ls 4 [(0, .ref p_this), (1, .int x1_2), (2, .int x2_15)] → f_X0_firstLentTwice_L15 (f_X0_firstLentTwice_X80 (f_X0_firstLentTwice_L2 d_lendings_many d_lendings_cells n9_2) x1_2 d_lendings_many d_lendings_cells) x1_2 d_lendings_many d_lendings_cells n9_15 x2_15 = some out → W p l e ({ frames := 2, cells := 0, slots := 0, locals := 44 } : Room) s m ([.ref p_this] : List Value).toArray below meth c H locs 0 0 Q (F0 m 15 ls []) := by
          intro n9_15
          induction n9_15 with
          | zero =>
            intro x2_15 H locs hP hD hS ls hl hrun
            rw [f_X0_firstLentTwice_L15] at hrun
            cases hrun
          | succ n9_15 ih15 =>
            intro x2_15 H locs hP hD hS ls hl hrun
            rw [f_X0_firstLentTwice_L15] at hrun
            refine lv_iload_n hx hb dX0_firstLentTwice_15 rfl (lv_at hl 2 rfl) ?_
            refine lv_iload_n hx hb dX0_firstLentTwice_16 rfl (lv_at hl 1 rfl) ?_
            refine lv_icmp_ge (tgt := 80) hx hb dX0_firstLentTwice_17 (by decide) (fun c_17 => ?_) (fun c_17 => ?_)
            · rw [if_pos c_17] at hrun
              exact X80 H locs hP hD hS ls (lv_sub hl [0, 1] rfl) hrun
            · rw [if_neg c_17] at hrun
              refine lv_aload_n hx hb dX0_firstLentTwice_20 rfl (lv_at hl 0 rfl) ?_
              refine va_get (D := (dC, dI)) (ci := 0) (v := .ref p_lendings) (C := RX0) (T := TX0) (N := 4) hx hb hts iwX0 hown hK hP 0 rfl rfl 1 (by decide) (hts (.fieldLink RX0 20 "SkyListeners$Now" "lendings" "LSkyListeners$Rows;") (by decide +kernel)) (fun _ h9 => h9) rfl dX0_firstLentTwice_21 ?_
              refine lv_iload_n hx hb dX0_firstLentTwice_24 rfl (lv_at hl 1 rfl) ?_
              refine lv_iconst (v := 0) hx hb dX0_firstLentTwice_25 (by decide) ?_
              have hPc : va_P (dC, dI) vwCl [(p_lendings, .inr (2, [.int d_lendings_most, .ref p_lendings_cells, .int d_lendings_many])), (p_lendings_cells, .inl (cI, 48, .inl d_lendings_cells))] H := hP.sub [1, 2] rfl
              have hDc : va_D A [(p_lendings, .inr (2, [.int d_lendings_most, .ref p_lendings_cells, .int d_lendings_many])), (p_lendings_cells, .inl (cI, 48, .inl d_lendings_cells))] := hD.sub [1, 2] (by decide) rfl
              have hFc := va_free (wc := [(p_lendings, .inr (2, [.int d_lendings_most, .ref p_lendings_cells, .int d_lendings_many])), (p_lendings_cells, .inl (cI, 48, .inl d_lendings_cells))]) hD hS hA [1, 2] rfl
              refine va_calli (va_runV (As := [.int x1_2, .int 0]) (rest := []) ⟨hx, hb, hml, hown, hts⟩ (c_X2_number l dC dI cI cZ H.size p_lendings_cells p_lendings d_lendings_most d_lendings_many d_lendings_cells x1_2 0 (f_X2_number d_lendings_many d_lendings_cells x1_2 0) rfl) (cwV 2 hts gX0_firstLentTwice_X2_number rfl rfl rfl (by decide +kernel) ⟨Nat.le_of_ble_eq_true rfl, Nat.le_of_ble_eq_true rfl⟩) ⟨fun a U g mk q => ⟨q.1, PC.mv q.2⟩, va_recv hK hP (ci := 2) (q0 := 1) rfl rfl, fun U hU hW => ⟨rfl, PC.of hU hW hPc hK hDc hN⟩⟩ rfl rfl hl.1 rfl (lv_room (Nat.le_of_ble_eq_true rfl)) dX0_firstLentTwice_26 ⟨Nat.zero_le _, Nat.zero_le _⟩) hS (fun q _ h => hFc q h) hFc (fun r_26 u t H1 locs ht hvm hw hB hz1 hk1 hS => ?_)
              obtain ⟨hP1, hD1⟩ := hB
              try dsimp only at hw
              rw [hw]
              rw [ht] at hP1
              have hP : va_P (dC, dI) vwCl [(p_this, .inr (0, [.ref p_mounts, .ref p_lendings, .ref p_log, .ref p_undos])), (p_lendings, .inr (2, [.int d_lendings_most, .ref p_lendings_cells, .int d_lendings_many])), (p_lendings_cells, .inl (cI, 48, .inl d_lendings_cells))] H1 := join_ro hP hD [1, 2] rfl hk1 hP1
              clear hPc hDc hFc hk1 hz1 hP1 hD1 ht hvm
              generalize H1 = H at hP hS ⊢
              refine lv_aload_n hx hb dX0_firstLentTwice_29 rfl (lv_at hl 0 rfl) ?_
              refine va_get (D := (dC, dI)) (ci := 0) (v := .ref p_lendings) (C := RX0) (T := TX0) (N := 4) hx hb hts iwX0 hown hK hP 0 rfl rfl 1 (by decide) (hts (.fieldLink RX0 20 "SkyListeners$Now" "lendings" "LSkyListeners$Rows;") (by decide +kernel)) (fun _ h9 => h9) rfl dX0_firstLentTwice_30 ?_
              refine lv_iload_n hx hb dX0_firstLentTwice_33 rfl (lv_at hl 2 rfl) ?_
              refine lv_iconst (v := 0) hx hb dX0_firstLentTwice_34 (by decide) ?_
              have hPc : va_P (dC, dI) vwCl [(p_lendings, .inr (2, [.int d_lendings_most, .ref p_lendings_cells, .int d_lendings_many])), (p_lendings_cells, .inl (cI, 48, .inl d_lendings_cells))] H := hP.sub [1, 2] rfl
              have hDc : va_D A [(p_lendings, .inr (2, [.int d_lendings_most, .ref p_lendings_cells, .int d_lendings_many])), (p_lendings_cells, .inl (cI, 48, .inl d_lendings_cells))] := hD.sub [1, 2] (by decide) rfl
              have hFc := va_free (wc := [(p_lendings, .inr (2, [.int d_lendings_most, .ref p_lendings_cells, .int d_lendings_many])), (p_lendings_cells, .inl (cI, 48, .inl d_lendings_cells))]) hD hS hA [1, 2] rfl
              refine va_calli (va_runV (As := [.int x2_15, .int 0]) (rest := [.int (f_X2_number d_lendings_many d_lendings_cells x1_2 0)]) ⟨hx, hb, hml, hown, hts⟩ (c_X2_number l dC dI cI cZ H.size p_lendings_cells p_lendings d_lendings_most d_lendings_many d_lendings_cells x2_15 0 (f_X2_number d_lendings_many d_lendings_cells x2_15 0) rfl) (cwV 2 hts gX0_firstLentTwice_X2_number rfl rfl rfl (by decide +kernel) ⟨Nat.le_of_ble_eq_true rfl, Nat.le_of_ble_eq_true rfl⟩) ⟨fun a U g mk q => ⟨q.1, PC.mv q.2⟩, va_recv hK hP (ci := 2) (q0 := 1) rfl rfl, fun U hU hW => ⟨rfl, PC.of hU hW hPc hK hDc hN⟩⟩ rfl rfl hl.1 rfl (lv_room (Nat.le_of_ble_eq_true rfl)) dX0_firstLentTwice_35 ⟨Nat.zero_le _, Nat.zero_le _⟩) hS (fun q _ h => hFc q h) hFc (fun r_35 u t H1 locs ht hvm hw hB hz1 hk1 hS => ?_)
              obtain ⟨hP1, hD1⟩ := hB
              try dsimp only at hw
              rw [hw]
              rw [ht] at hP1
              have hP : va_P (dC, dI) vwCl [(p_this, .inr (0, [.ref p_mounts, .ref p_lendings, .ref p_log, .ref p_undos])), (p_lendings, .inr (2, [.int d_lendings_most, .ref p_lendings_cells, .int d_lendings_many])), (p_lendings_cells, .inl (cI, 48, .inl d_lendings_cells))] H1 := join_ro hP hD [1, 2] rfl hk1 hP1
              clear hPc hDc hFc hk1 hz1 hP1 hD1 ht hvm
              generalize H1 = H at hP hS ⊢
              have J46 : ∀ (t0_46 : Int32) (H : Heap) (locs : List Loc), va_P (dC, dI) vwCl [(p_this, .inr (0, [.ref p_mounts, .ref p_lendings, .ref p_log, .ref p_undos])), (p_lendings, .inr (2, [.int d_lendings_most, .ref p_lendings_cells, .int d_lendings_many])), (p_lendings_cells, .inl (cI, 48, .inl d_lendings_cells))] H → va_D A [(p_this, .inr (0, [.ref p_mounts, .ref p_lendings, .ref p_log, .ref p_undos])), (p_lendings, .inr (2, [.int d_lendings_most, .ref p_lendings_cells, .int d_lendings_many])), (p_lendings_cells, .inl (cI, 48, .inl d_lendings_cells))] → va_S A s.heap H locs → ∀ ls : Array Slot, lv_has ls 4 [(0, .ref p_this), (1, .int x1_2), (2, .int x2_15)] → f_X0_firstLentTwice_J46 (f_X0_firstLentTwice_L15 (f_X0_firstLentTwice_X80 (f_X0_firstLentTwice_L2 d_lendings_many d_lendings_cells n9_2) x1_2 d_lendings_many d_lendings_cells) x1_2 d_lendings_many d_lendings_cells n9_15) x1_2 x2_15 d_lendings_many d_lendings_cells t0_46 = some out → W p l e ({ frames := 2, cells := 0, slots := 0, locals := 44 } : Room) s m ([.ref p_this] : List Value).toArray below meth c H locs 0 0 Q (F0 m 46 ls [.int t0_46]) := by
                intro t0_46 H locs hP hD hS ls hl hrun
                rw [f_X0_firstLentTwice_J46] at hrun
                refine lv_istore_n (lv' := [(3, .int t0_46), (0, .ref p_this), (1, .int x1_2), (2, .int x2_15)]) hx hb dX0_firstLentTwice_46 rfl hl (by decide) rfl (fun ls hl => ?_)
                refine lv_iload_n hx hb dX0_firstLentTwice_47 rfl (lv_at hl 0 rfl) ?_
                have J74 : ∀  (H : Heap) (locs : List Loc), va_P (dC, dI) vwCl [(p_this, .inr (0, [.ref p_mounts, .ref p_lendings, .ref p_log, .ref p_undos])), (p_lendings, .inr (2, [.int d_lendings_most, .ref p_lendings_cells, .int d_lendings_many])), (p_lendings_cells, .inl (cI, 48, .inl d_lendings_cells))] H → va_D A [(p_this, .inr (0, [.ref p_mounts, .ref p_lendings, .ref p_log, .ref p_undos])), (p_lendings, .inr (2, [.int d_lendings_most, .ref p_lendings_cells, .int d_lendings_many])), (p_lendings_cells, .inl (cI, 48, .inl d_lendings_cells))] → va_S A s.heap H locs → ∀ ls : Array Slot, lv_has ls 4 [(0, .ref p_this), (1, .int x1_2), (2, .int x2_15)] → f_X0_firstLentTwice_J74 (f_X0_firstLentTwice_L15 (f_X0_firstLentTwice_X80 (f_X0_firstLentTwice_L2 d_lendings_many d_lendings_cells n9_2) x1_2 d_lendings_many d_lendings_cells) x1_2 d_lendings_many d_lendings_cells n9_15) x1_2 x2_15 d_lendings_many d_lendings_cells = some out → W p l e ({ frames := 2, cells := 0, slots := 0, locals := 44 } : Room) s m ([.ref p_this] : List Value).toArray below meth c H locs 0 0 Q (F0 m 74 ls []) := by
                  intro H locs hP hD hS ls hl hrun
                  rw [f_X0_firstLentTwice_J74] at hrun
                  refine lv_iinc (v := x2_15 + 1) (lv' := [(2, .int (x2_15 + 1)), (0, .ref p_this), (1, .int x1_2)]) hx hb dX0_firstLentTwice_74 hl (k := 2) rfl rfl (by decide) rfl (fun ls hl => ?_)
                  refine lv_goto (tgt := 15) hx hb dX0_firstLentTwice_77 (by decide) ?_
                  exact ih15 (x2_15 + 1) H locs hP hD hS ls (lv_sub hl [1, 2, 0] rfl) hrun
                refine lv_if_eq (tgt := 74) hx hb dX0_firstLentTwice_48 (by decide) (fun c_48 => ?_) (fun c_48 => ?_)
                · rw [if_pos c_48] at hrun
                  exact J74 H locs hP hD hS ls (lv_sub hl [1, 2, 3] rfl) hrun
                · rw [if_neg c_48] at hrun
                  refine lv_aload_n hx hb dX0_firstLentTwice_51 rfl (lv_at hl 1 rfl) ?_
                  refine va_get (D := (dC, dI)) (ci := 0) (v := .ref p_lendings) (C := RX0) (T := TX0) (N := 4) hx hb hts iwX0 hown hK hP 0 rfl rfl 1 (by decide) (hts (.fieldLink RX0 20 "SkyListeners$Now" "lendings" "LSkyListeners$Rows;") (by decide +kernel)) (fun _ h9 => h9) rfl dX0_firstLentTwice_52 ?_
                  refine lv_iload_n hx hb dX0_firstLentTwice_55 rfl (lv_at hl 2 rfl) ?_
                  refine lv_iconst (v := 1) hx hb dX0_firstLentTwice_56 (by decide) ?_
                  have hPc : va_P (dC, dI) vwCl [(p_lendings, .inr (2, [.int d_lendings_most, .ref p_lendings_cells, .int d_lendings_many])), (p_lendings_cells, .inl (cI, 48, .inl d_lendings_cells))] H := hP.sub [1, 2] rfl
                  have hDc : va_D A [(p_lendings, .inr (2, [.int d_lendings_most, .ref p_lendings_cells, .int d_lendings_many])), (p_lendings_cells, .inl (cI, 48, .inl d_lendings_cells))] := hD.sub [1, 2] (by decide) rfl
                  have hFc := va_free (wc := [(p_lendings, .inr (2, [.int d_lendings_most, .ref p_lendings_cells, .int d_lendings_many])), (p_lendings_cells, .inl (cI, 48, .inl d_lendings_cells))]) hD hS hA [1, 2] rfl
                  refine va_calli (va_runV (As := [.int x1_2, .int 1]) (rest := []) ⟨hx, hb, hml, hown, hts⟩ (c_X2_number l dC dI cI cZ H.size p_lendings_cells p_lendings d_lendings_most d_lendings_many d_lendings_cells x1_2 1 (f_X2_number d_lendings_many d_lendings_cells x1_2 1) rfl) (cwV 2 hts gX0_firstLentTwice_X2_number rfl rfl rfl (by decide +kernel) ⟨Nat.le_of_ble_eq_true rfl, Nat.le_of_ble_eq_true rfl⟩) ⟨fun a U g mk q => ⟨q.1, PC.mv q.2⟩, va_recv hK hP (ci := 2) (q0 := 1) rfl rfl, fun U hU hW => ⟨rfl, PC.of hU hW hPc hK hDc hN⟩⟩ rfl rfl hl.1 rfl (lv_room (Nat.le_of_ble_eq_true rfl)) dX0_firstLentTwice_57 ⟨Nat.zero_le _, Nat.zero_le _⟩) hS (fun q _ h => hFc q h) hFc (fun r_57 u t H1 locs ht hvm hw hB hz1 hk1 hS => ?_)
                  obtain ⟨hP1, hD1⟩ := hB
                  try dsimp only at hw
                  rw [hw]
                  rw [ht] at hP1
                  have hP : va_P (dC, dI) vwCl [(p_this, .inr (0, [.ref p_mounts, .ref p_lendings, .ref p_log, .ref p_undos])), (p_lendings, .inr (2, [.int d_lendings_most, .ref p_lendings_cells, .int d_lendings_many])), (p_lendings_cells, .inl (cI, 48, .inl d_lendings_cells))] H1 := join_ro hP hD [1, 2] rfl hk1 hP1
                  clear hPc hDc hFc hk1 hz1 hP1 hD1 ht hvm
                  generalize H1 = H at hP hS ⊢
                  refine lv_aload_n hx hb dX0_firstLentTwice_60 rfl (lv_at hl 1 rfl) ?_
                  refine va_get (D := (dC, dI)) (ci := 0) (v := .ref p_lendings) (C := RX0) (T := TX0) (N := 4) hx hb hts iwX0 hown hK hP 0 rfl rfl 1 (by decide) (hts (.fieldLink RX0 20 "SkyListeners$Now" "lendings" "LSkyListeners$Rows;") (by decide +kernel)) (fun _ h9 => h9) rfl dX0_firstLentTwice_61 ?_
                  refine lv_iload_n hx hb dX0_firstLentTwice_64 rfl (lv_at hl 3 rfl) ?_
                  refine lv_iconst (v := 1) hx hb dX0_firstLentTwice_65 (by decide) ?_
                  have hPc : va_P (dC, dI) vwCl [(p_lendings, .inr (2, [.int d_lendings_most, .ref p_lendings_cells, .int d_lendings_many])), (p_lendings_cells, .inl (cI, 48, .inl d_lendings_cells))] H := hP.sub [1, 2] rfl
                  have hDc : va_D A [(p_lendings, .inr (2, [.int d_lendings_most, .ref p_lendings_cells, .int d_lendings_many])), (p_lendings_cells, .inl (cI, 48, .inl d_lendings_cells))] := hD.sub [1, 2] (by decide) rfl
                  have hFc := va_free (wc := [(p_lendings, .inr (2, [.int d_lendings_most, .ref p_lendings_cells, .int d_lendings_many])), (p_lendings_cells, .inl (cI, 48, .inl d_lendings_cells))]) hD hS hA [1, 2] rfl
                  refine va_calli (va_runV (As := [.int x2_15, .int 1]) (rest := [.int (f_X2_number d_lendings_many d_lendings_cells x1_2 1)]) ⟨hx, hb, hml, hown, hts⟩ (c_X2_number l dC dI cI cZ H.size p_lendings_cells p_lendings d_lendings_most d_lendings_many d_lendings_cells x2_15 1 (f_X2_number d_lendings_many d_lendings_cells x2_15 1) rfl) (cwV 2 hts gX0_firstLentTwice_X2_number rfl rfl rfl (by decide +kernel) ⟨Nat.le_of_ble_eq_true rfl, Nat.le_of_ble_eq_true rfl⟩) ⟨fun a U g mk q => ⟨q.1, PC.mv q.2⟩, va_recv hK hP (ci := 2) (q0 := 1) rfl rfl, fun U hU hW => ⟨rfl, PC.of hU hW hPc hK hDc hN⟩⟩ rfl rfl hl.1 rfl (lv_room (Nat.le_of_ble_eq_true rfl)) dX0_firstLentTwice_66 ⟨Nat.zero_le _, Nat.zero_le _⟩) hS (fun q _ h => hFc q h) hFc (fun r_66 u t H1 locs ht hvm hw hB hz1 hk1 hS => ?_)
                  obtain ⟨hP1, hD1⟩ := hB
                  try dsimp only at hw
                  rw [hw]
                  rw [ht] at hP1
                  have hP : va_P (dC, dI) vwCl [(p_this, .inr (0, [.ref p_mounts, .ref p_lendings, .ref p_log, .ref p_undos])), (p_lendings, .inr (2, [.int d_lendings_most, .ref p_lendings_cells, .int d_lendings_many])), (p_lendings_cells, .inl (cI, 48, .inl d_lendings_cells))] H1 := join_ro hP hD [1, 2] rfl hk1 hP1
                  clear hPc hDc hFc hk1 hz1 hP1 hD1 ht hvm
                  generalize H1 = H at hP hS ⊢
                  refine lv_icmp_ne (tgt := 74) hx hb dX0_firstLentTwice_69 (by decide) (fun c_69 => ?_) (fun c_69 => ?_)
                  · rw [if_neg c_69] at hrun
                    exact J74 H locs hP hD hS ls (lv_sub hl [1, 2, 3] rfl) hrun
                  · rw [if_pos c_69] at hrun
                    refine lv_iload_n hx hb dX0_firstLentTwice_72 rfl (lv_at hl 2 rfl) ?_
                    have hrun := Option.some.inj hrun
                    subst hrun
                    rw [hQ]
                    exact W.iret (v := x1_2) hx hb hr (fun t ht hW => ⟨⟨x1_2, (), rfl, rfl, by rw [ht]; exact hP, hD⟩, hS.F ht⟩) hS.2.2 dX0_firstLentTwice_73
              refine lv_icmp_ne (tgt := 45) hx hb dX0_firstLentTwice_38 (by decide) (fun c_38 => ?_) (fun c_38 => ?_)
              · rw [if_neg c_38] at hrun
                refine lv_iconst (v := 0) hx hb dX0_firstLentTwice_45 (by decide) ?_
                exact J46 0 H locs hP hD hS ls hl hrun
              · rw [if_pos c_38] at hrun
                refine lv_iconst (v := 1) hx hb dX0_firstLentTwice_41 (by decide) ?_
                refine lv_goto (tgt := 46) hx hb dX0_firstLentTwice_42 (by decide) ?_
                exact J46 1 H locs hP hD hS ls hl hrun
        exact L15 FU 0 H locs hP hD hS ls (lv_sub hl [1, 2, 0] rfl) hrun
  exact L2 FU 1 H locs hP hD hS ls (lv_sub hl [1, 0] rfl) hrun
-- SkyListeners$Now.isLogged
def f_X0_isLogged (d_log_many : Int32) (d_log_cells : Nat → Int32) (x1 : Int32) (x2 : Int32) (x3 : Int32) : Int32 := (if (f_X2_number d_log_many d_log_cells x1 2) = x2 then (if (f_X2_number d_log_many d_log_cells x1 3) = x3 then (1) else (0)) else (0))
theorem b_X0_isLogged (d_log_many : Int32) (d_log_cells : Nat → Int32) (x1 : Int32) (x2 : Int32) (x3 : Int32) : f_X0_isLogged d_log_many d_log_cells x1 x2 x3 = 0 ∨ f_X0_isLogged d_log_many d_log_cells x1 x2 x3 = 1 := by unfold f_X0_isLogged; first | (repeat' split) <;> first | exact Or.inl rfl | exact Or.inr rfl
set_option maxHeartbeats 4000000 in
set_option maxRecDepth 100000 in
theorem c_X0_isLogged (l : Launch) (dC : Nat → ClassId) (dI : Nat → Nat → Nat) (cI cZ : ClassId) (sz : Nat) (p_lendings p_log p_log_cells p_mounts p_this p_undos : Nat) (d_log_most : Int32) (d_log_many : Int32) (d_log_cells : Nat → Int32) (x1 : Int32) (x2 : Int32) (x3 : Int32) (out : Int32) (hrun : f_X0_isLogged d_log_many d_log_cells x1 x2 x3 = out) : Met l yX0_isLogged wsX0_isLogged ({ frames := 2, cells := 0, slots := 0, locals := 44 } : Room) (va_Pc [.ref p_this, .int x1, .int x2, .int x3] (PC dC dI cI cZ sz ([(p_this, .inr (0, [.ref p_mounts, .ref p_lendings, .ref p_log, .ref p_undos])), (p_log, .inr (2, [.int d_log_most, .ref p_log_cells, .int d_log_many])), (p_log_cells, .inl (cI, 48, .inl d_log_cells))] : va_W))) (va_Qi (fun r (_ : Unit) => r = out) (fun _ t => va_P (dC, dI) vwCl [(p_this, .inr (0, [.ref p_mounts, .ref p_lendings, .ref p_log, .ref p_undos])), (p_log, .inr (2, [.int d_log_most, .ref p_log_cells, .int d_log_many])), (p_log_cells, .inl (cI, 48, .inl d_log_cells))] t.heap ∧ va_D (va_A ([(p_this, .inr (0, [.ref p_mounts, .ref p_lendings, .ref p_log, .ref p_undos])), (p_log, .inr (2, [.int d_log_most, .ref p_log_cells, .int d_log_many])), (p_log_cells, .inl (cI, 48, .inl d_log_cells))] : va_W) sz) [(p_this, .inr (0, [.ref p_mounts, .ref p_lendings, .ref p_log, .ref p_undos])), (p_log, .inr (2, [.int d_log_most, .ref p_log_cells, .int d_log_many])), (p_log_cells, .inl (cI, 48, .inl d_log_cells))]) (va_A ([(p_this, .inr (0, [.ref p_mounts, .ref p_lendings, .ref p_log, .ref p_undos])), (p_log, .inr (2, [.int d_log_most, .ref p_log_cells, .int d_log_many])), (p_log_cells, .inl (cI, 48, .inl d_log_cells))] : va_W) sz)) 0 0 (va_A ([(p_this, .inr (0, [.ref p_mounts, .ref p_lendings, .ref p_log, .ref p_undos])), (p_log, .inr (2, [.int d_log_most, .ref p_log_cells, .int d_log_many])), (p_log_cells, .inl (cI, 48, .inl d_log_cells))] : va_W) sz) := by
  refine Met.ofW (cc := cX0_isLogged) (maxL := 4) (ret := (some .boolean)) (by decide) rfl ?_
  intro p e s m args below meth c s₁ B hml hv
  obtain ⟨rfl, hsz, hP, hK, hD0, hN⟩ := hv
  have hx := B.exec
  have hb := B.bytes
  have hr := B.returns
  have hts := atoms_spec (ws := wsX0_isLogged) B.pre
  have hown : s.vm.findClass RX0 = some m.cls := findClass_of_methodNamed B.named
  have hlocks := B.notSynchronized
  subst hsz
  have hD := hD0.self (sz := s.heap.size)
  generalize hAe : va_A ([(p_this, .inr (0, [.ref p_mounts, .ref p_lendings, .ref p_log, .ref p_undos])), (p_log, .inr (2, [.int d_log_most, .ref p_log_cells, .int d_log_many])), (p_log_cells, .inl (cI, 48, .inl d_log_cells))] : va_W) s.heap.size = A at hD ⊢
  have hA : ∀ q : Nat, s.heap.size ≤ q → A q := fun q h => by rw [← hAe]; exact Or.inr h
  have hS : va_S A s.heap s.heap [] := va_S.rf
  refine W_abs (fun Q hQ => ?_)
  have hl := lv_entry ([.ref p_this, .int x1, .int x2, .int x3]) (n := 4) (Nat.le_of_ble_eq_true rfl)
  rw [lg_entry_eq]
  generalize (lg_sl ([.ref p_this, .int x1, .int x2, .int x3]) ++ List.replicate (4 - (lg_sl ([.ref p_this, .int x1, .int x2, .int x3])).length) Slot.unset).toArray = ls at hl ⊢
  have hl : lv_has ls 4 [(0, .ref p_this), (1, .int x1), (2, .int x2), (3, .int x3)] := hl
  rw [f_X0_isLogged] at hrun
  refine W_start (ws := [(p_this, .inr (0, [.ref p_mounts, .ref p_lendings, .ref p_log, .ref p_undos])), (p_log, .inr (2, [.int d_log_most, .ref p_log_cells, .int d_log_many])), (p_log_cells, .inl (cI, 48, .inl d_log_cells))]) hP hS (fun H locs hP hS => ?_)
  have iwX0 : ∀ w ∈ wsX00, w ∈ wsX0_isLogged := by decide +kernel
  refine lv_aload_n hx hb dX0_isLogged_0 rfl (lv_at hl 0 rfl) ?_
  refine va_get (D := (dC, dI)) (ci := 0) (v := .ref p_log) (C := RX0) (T := TX0) (N := 4) hx hb hts iwX0 hown hK hP 0 rfl rfl 2 (by decide) (hts (.fieldLink RX0 23 "SkyListeners$Now" "log" "LSkyListeners$Rows;") (by decide +kernel)) (fun _ h9 => h9) rfl dX0_isLogged_1 ?_
  refine lv_iload_n hx hb dX0_isLogged_4 rfl (lv_at hl 1 rfl) ?_
  refine lv_iconst (v := 2) hx hb dX0_isLogged_5 (by decide) ?_
  have hPc : va_P (dC, dI) vwCl [(p_log, .inr (2, [.int d_log_most, .ref p_log_cells, .int d_log_many])), (p_log_cells, .inl (cI, 48, .inl d_log_cells))] H := hP.sub [1, 2] rfl
  have hDc : va_D A [(p_log, .inr (2, [.int d_log_most, .ref p_log_cells, .int d_log_many])), (p_log_cells, .inl (cI, 48, .inl d_log_cells))] := hD.sub [1, 2] (by decide) rfl
  have hFc := va_free (wc := [(p_log, .inr (2, [.int d_log_most, .ref p_log_cells, .int d_log_many])), (p_log_cells, .inl (cI, 48, .inl d_log_cells))]) hD hS hA [1, 2] rfl
  refine va_calli (va_runV (As := [.int x1, .int 2]) (rest := []) ⟨hx, hb, hml, hown, hts⟩ (c_X2_number l dC dI cI cZ H.size p_log_cells p_log d_log_most d_log_many d_log_cells x1 2 (f_X2_number d_log_many d_log_cells x1 2) rfl) (cwV 2 hts gX0_isLogged_X2_number rfl rfl rfl (by decide +kernel) ⟨Nat.le_of_ble_eq_true rfl, Nat.le_of_ble_eq_true rfl⟩) ⟨fun a U g mk q => ⟨q.1, PC.mv q.2⟩, va_recv hK hP (ci := 2) (q0 := 1) rfl rfl, fun U hU hW => ⟨rfl, PC.of hU hW hPc hK hDc hN⟩⟩ rfl rfl hl.1 rfl (lv_room (Nat.le_of_ble_eq_true rfl)) dX0_isLogged_6 ⟨Nat.zero_le _, Nat.zero_le _⟩) hS (fun q _ h => hFc q h) hFc (fun r_6 u t H1 locs ht hvm hw hB hz1 hk1 hS => ?_)
  obtain ⟨hP1, hD1⟩ := hB
  try dsimp only at hw
  rw [hw]
  rw [ht] at hP1
  have hP : va_P (dC, dI) vwCl [(p_this, .inr (0, [.ref p_mounts, .ref p_lendings, .ref p_log, .ref p_undos])), (p_log, .inr (2, [.int d_log_most, .ref p_log_cells, .int d_log_many])), (p_log_cells, .inl (cI, 48, .inl d_log_cells))] H1 := join_ro hP hD [1, 2] rfl hk1 hP1
  clear hPc hDc hFc hk1 hz1 hP1 hD1 ht hvm
  generalize H1 = H at hP hS ⊢
  refine lv_iload_n hx hb dX0_isLogged_9 rfl (lv_at hl 2 rfl) ?_
  refine lv_icmp_ne (tgt := 30) hx hb dX0_isLogged_10 (by decide) (fun c_10 => ?_) (fun c_10 => ?_)
  · rw [if_neg c_10] at hrun
    refine lv_iconst (v := 0) hx hb dX0_isLogged_30 (by decide) ?_
    have hrun := hrun
    subst hrun
    rw [hQ]
    exact W.zret (v := 0) (ty := .boolean) hx hb hr rfl (fun t ht hW => ⟨⟨0, (), rfl, rfl, by rw [ht]; exact hP, hD⟩, hS.F ht⟩) hS.2.2 dX0_isLogged_31
  · rw [if_pos c_10] at hrun
    refine lv_aload_n hx hb dX0_isLogged_13 rfl (lv_at hl 0 rfl) ?_
    refine va_get (D := (dC, dI)) (ci := 0) (v := .ref p_log) (C := RX0) (T := TX0) (N := 4) hx hb hts iwX0 hown hK hP 0 rfl rfl 2 (by decide) (hts (.fieldLink RX0 23 "SkyListeners$Now" "log" "LSkyListeners$Rows;") (by decide +kernel)) (fun _ h9 => h9) rfl dX0_isLogged_14 ?_
    refine lv_iload_n hx hb dX0_isLogged_17 rfl (lv_at hl 1 rfl) ?_
    refine lv_iconst (v := 3) hx hb dX0_isLogged_18 (by decide) ?_
    have hPc : va_P (dC, dI) vwCl [(p_log, .inr (2, [.int d_log_most, .ref p_log_cells, .int d_log_many])), (p_log_cells, .inl (cI, 48, .inl d_log_cells))] H := hP.sub [1, 2] rfl
    have hDc : va_D A [(p_log, .inr (2, [.int d_log_most, .ref p_log_cells, .int d_log_many])), (p_log_cells, .inl (cI, 48, .inl d_log_cells))] := hD.sub [1, 2] (by decide) rfl
    have hFc := va_free (wc := [(p_log, .inr (2, [.int d_log_most, .ref p_log_cells, .int d_log_many])), (p_log_cells, .inl (cI, 48, .inl d_log_cells))]) hD hS hA [1, 2] rfl
    refine va_calli (va_runV (As := [.int x1, .int 3]) (rest := []) ⟨hx, hb, hml, hown, hts⟩ (c_X2_number l dC dI cI cZ H.size p_log_cells p_log d_log_most d_log_many d_log_cells x1 3 (f_X2_number d_log_many d_log_cells x1 3) rfl) (cwV 2 hts gX0_isLogged_X2_number rfl rfl rfl (by decide +kernel) ⟨Nat.le_of_ble_eq_true rfl, Nat.le_of_ble_eq_true rfl⟩) ⟨fun a U g mk q => ⟨q.1, PC.mv q.2⟩, va_recv hK hP (ci := 2) (q0 := 1) rfl rfl, fun U hU hW => ⟨rfl, PC.of hU hW hPc hK hDc hN⟩⟩ rfl rfl hl.1 rfl (lv_room (Nat.le_of_ble_eq_true rfl)) dX0_isLogged_19 ⟨Nat.zero_le _, Nat.zero_le _⟩) hS (fun q _ h => hFc q h) hFc (fun r_19 u t H1 locs ht hvm hw hB hz1 hk1 hS => ?_)
    obtain ⟨hP1, hD1⟩ := hB
    try dsimp only at hw
    rw [hw]
    rw [ht] at hP1
    have hP : va_P (dC, dI) vwCl [(p_this, .inr (0, [.ref p_mounts, .ref p_lendings, .ref p_log, .ref p_undos])), (p_log, .inr (2, [.int d_log_most, .ref p_log_cells, .int d_log_many])), (p_log_cells, .inl (cI, 48, .inl d_log_cells))] H1 := join_ro hP hD [1, 2] rfl hk1 hP1
    clear hPc hDc hFc hk1 hz1 hP1 hD1 ht hvm
    generalize H1 = H at hP hS ⊢
    refine lv_iload_n hx hb dX0_isLogged_22 rfl (lv_at hl 3 rfl) ?_
    refine lv_icmp_ne (tgt := 30) hx hb dX0_isLogged_23 (by decide) (fun c_23 => ?_) (fun c_23 => ?_)
    · rw [if_neg c_23] at hrun
      refine lv_iconst (v := 0) hx hb dX0_isLogged_30 (by decide) ?_
      have hrun := hrun
      subst hrun
      rw [hQ]
      exact W.zret (v := 0) (ty := .boolean) hx hb hr rfl (fun t ht hW => ⟨⟨0, (), rfl, rfl, by rw [ht]; exact hP, hD⟩, hS.F ht⟩) hS.2.2 dX0_isLogged_31
    · rw [if_pos c_23] at hrun
      refine lv_iconst (v := 1) hx hb dX0_isLogged_26 (by decide) ?_
      refine lv_goto (tgt := 31) hx hb dX0_isLogged_27 (by decide) ?_
      have hrun := hrun
      subst hrun
      rw [hQ]
      exact W.zret (v := 1) (ty := .boolean) hx hb hr rfl (fun t ht hW => ⟨⟨1, (), rfl, rfl, by rw [ht]; exact hP, hD⟩, hS.F ht⟩) hS.2.2 dX0_isLogged_31
-- SkyListeners$Now.timesHeard
def f_X0_timesHeard_J28 (K4 : Int32 → Int32 → Option (Int32)) (x1 : Int32) (x3 : Int32) (d_log_many : Int32) (d_log_cells : Nat → Int32) (x2 : Int32) : Option (Int32) := (K4 x2 (x3 + 1))
def f_X0_timesHeard_L4 (x1 : Int32) (d_log_many : Int32) (d_log_cells : Nat → Int32) : Nat → Int32 → Int32 → Option (Int32)
  | 0, _, _ => none
  | n9 + 1, x2, x3 => (if d_log_many ≤ x3 then (some x2) else (if (f_X0_isLogged d_log_many d_log_cells x3 x1 1) = 0 then (f_X0_timesHeard_J28 (f_X0_timesHeard_L4  x1 d_log_many d_log_cells n9) x1 x3 d_log_many d_log_cells x2) else (f_X0_timesHeard_J28 (f_X0_timesHeard_L4  x1 d_log_many d_log_cells n9) x1 x3 d_log_many d_log_cells (x2 + 1))))
def f_X0_timesHeard (d_log_many : Int32) (d_log_cells : Nat → Int32) (x1 : Int32) : Option (Int32) := (f_X0_timesHeard_L4 x1 d_log_many d_log_cells FU 0 0)
set_option maxHeartbeats 4000000 in
set_option maxRecDepth 100000 in
theorem c_X0_timesHeard (l : Launch) (dC : Nat → ClassId) (dI : Nat → Nat → Nat) (cI cZ : ClassId) (sz : Nat) (p_lendings p_log p_log_cells p_mounts p_this p_undos : Nat) (d_log_most : Int32) (d_log_many : Int32) (d_log_cells : Nat → Int32) (x1 : Int32) (out : Int32) (hrun : f_X0_timesHeard d_log_many d_log_cells x1 = some out) : Met l yX0_timesHeard wsX0_timesHeard ({ frames := 3, cells := 0, slots := 0, locals := 67 } : Room) (va_Pc [.ref p_this, .int x1] (PC dC dI cI cZ sz ([(p_this, .inr (0, [.ref p_mounts, .ref p_lendings, .ref p_log, .ref p_undos])), (p_log, .inr (2, [.int d_log_most, .ref p_log_cells, .int d_log_many])), (p_log_cells, .inl (cI, 48, .inl d_log_cells))] : va_W))) (va_Qi (fun r (_ : Unit) => r = out) (fun _ t => va_P (dC, dI) vwCl [(p_this, .inr (0, [.ref p_mounts, .ref p_lendings, .ref p_log, .ref p_undos])), (p_log, .inr (2, [.int d_log_most, .ref p_log_cells, .int d_log_many])), (p_log_cells, .inl (cI, 48, .inl d_log_cells))] t.heap ∧ va_D (va_A ([(p_this, .inr (0, [.ref p_mounts, .ref p_lendings, .ref p_log, .ref p_undos])), (p_log, .inr (2, [.int d_log_most, .ref p_log_cells, .int d_log_many])), (p_log_cells, .inl (cI, 48, .inl d_log_cells))] : va_W) sz) [(p_this, .inr (0, [.ref p_mounts, .ref p_lendings, .ref p_log, .ref p_undos])), (p_log, .inr (2, [.int d_log_most, .ref p_log_cells, .int d_log_many])), (p_log_cells, .inl (cI, 48, .inl d_log_cells))]) (va_A ([(p_this, .inr (0, [.ref p_mounts, .ref p_lendings, .ref p_log, .ref p_undos])), (p_log, .inr (2, [.int d_log_most, .ref p_log_cells, .int d_log_many])), (p_log_cells, .inl (cI, 48, .inl d_log_cells))] : va_W) sz)) 0 0 (va_A ([(p_this, .inr (0, [.ref p_mounts, .ref p_lendings, .ref p_log, .ref p_undos])), (p_log, .inr (2, [.int d_log_most, .ref p_log_cells, .int d_log_many])), (p_log_cells, .inl (cI, 48, .inl d_log_cells))] : va_W) sz) := by
  refine Met.ofW (cc := cX0_timesHeard) (maxL := 4) (ret := (some .int)) (by decide) rfl ?_
  intro p e s m args below meth c s₁ B hml hv
  obtain ⟨rfl, hsz, hP, hK, hD0, hN⟩ := hv
  have hx := B.exec
  have hb := B.bytes
  have hr := B.returns
  have hts := atoms_spec (ws := wsX0_timesHeard) B.pre
  have hown : s.vm.findClass RX0 = some m.cls := findClass_of_methodNamed B.named
  have hlocks := B.notSynchronized
  subst hsz
  have hD := hD0.self (sz := s.heap.size)
  generalize hAe : va_A ([(p_this, .inr (0, [.ref p_mounts, .ref p_lendings, .ref p_log, .ref p_undos])), (p_log, .inr (2, [.int d_log_most, .ref p_log_cells, .int d_log_many])), (p_log_cells, .inl (cI, 48, .inl d_log_cells))] : va_W) s.heap.size = A at hD ⊢
  have hA : ∀ q : Nat, s.heap.size ≤ q → A q := fun q h => by rw [← hAe]; exact Or.inr h
  have hS : va_S A s.heap s.heap [] := va_S.rf
  refine W_abs (fun Q hQ => ?_)
  have hl := lv_entry ([.ref p_this, .int x1]) (n := 4) (Nat.le_of_ble_eq_true rfl)
  rw [lg_entry_eq]
  generalize (lg_sl ([.ref p_this, .int x1]) ++ List.replicate (4 - (lg_sl ([.ref p_this, .int x1])).length) Slot.unset).toArray = ls at hl ⊢
  have hl : lv_has ls 4 [(0, .ref p_this), (1, .int x1)] := hl
  rw [f_X0_timesHeard] at hrun
  refine W_start (ws := [(p_this, .inr (0, [.ref p_mounts, .ref p_lendings, .ref p_log, .ref p_undos])), (p_log, .inr (2, [.int d_log_most, .ref p_log_cells, .int d_log_many])), (p_log_cells, .inl (cI, 48, .inl d_log_cells))]) hP hS (fun H locs hP hS => ?_)
  have iwX0 : ∀ w ∈ wsX00, w ∈ wsX0_timesHeard := by decide +kernel
  have iwX2 : ∀ w ∈ wsX20, w ∈ wsX0_timesHeard := by decide +kernel
  refine lv_iconst (v := 0) hx hb dX0_timesHeard_0 (by decide) ?_
  refine lv_istore_n (lv' := [(2, .int 0), (0, .ref p_this), (1, .int x1)]) hx hb dX0_timesHeard_1 rfl hl (by decide) rfl (fun ls hl => ?_)
  refine lv_iconst (v := 0) hx hb dX0_timesHeard_2 (by decide) ?_
  refine lv_istore_n (lv' := [(3, .int 0), (2, .int 0), (0, .ref p_this), (1, .int x1)]) hx hb dX0_timesHeard_3 rfl hl (by decide) rfl (fun ls hl => ?_)
  have L4 : ∀ (n9_4 : Nat) (x2_4 : Int32) (x3_4 : Int32) (H : Heap) (locs : List Loc), va_P (dC, dI) vwCl [(p_this, .inr (0, [.ref p_mounts, .ref p_lendings, .ref p_log, .ref p_undos])), (p_log, .inr (2, [.int d_log_most, .ref p_log_cells, .int d_log_many])), (p_log_cells, .inl (cI, 48, .inl d_log_cells))] H → va_D A [(p_this, .inr (0, [.ref p_mounts, .ref p_lendings, .ref p_log, .ref p_undos])), (p_log, .inr (2, [.int d_log_most, .ref p_log_cells, .int d_log_many])), (p_log_cells, .inl (cI, 48, .inl d_log_cells))] → va_S A s.heap H locs → ∀ ls : Array Slot, lv_has ls 4 [(0, .ref p_this), (1, .int x1), (2, .int x2_4), (3, .int x3_4)] → f_X0_timesHeard_L4 x1 d_log_many d_log_cells n9_4 x2_4 x3_4 = some out → W p l e ({ frames := 3, cells := 0, slots := 0, locals := 67 } : Room) s m ([.ref p_this, .int x1] : List Value).toArray below meth c H locs 0 0 Q (F0 m 4 ls []) := by
    intro n9_4
    induction n9_4 with
    | zero =>
      intro x2_4 x3_4 H locs hP hD hS ls hl hrun
      rw [f_X0_timesHeard_L4] at hrun
      cases hrun
    | succ n9_4 ih4 =>
      intro x2_4 x3_4 H locs hP hD hS ls hl hrun
      rw [f_X0_timesHeard_L4] at hrun
      refine lv_iload_n hx hb dX0_timesHeard_4 rfl (lv_at hl 3 rfl) ?_
      refine lv_aload_n hx hb dX0_timesHeard_5 rfl (lv_at hl 0 rfl) ?_
      refine va_get (D := (dC, dI)) (ci := 0) (v := .ref p_log) (C := RX0) (T := TX0) (N := 4) hx hb hts iwX0 hown hK hP 0 rfl rfl 2 (by decide) (hts (.fieldLink RX0 23 "SkyListeners$Now" "log" "LSkyListeners$Rows;") (by decide +kernel)) (fun _ h9 => h9) rfl dX0_timesHeard_6 ?_
      refine va_get (D := (dC, dI)) (ci := 2) (v := .int d_log_many) (C := RX2) (T := TX2) (N := 3) hx hb hts iwX2 hown hK hP 1 rfl rfl 2 (by decide) (hts (.fieldLink RX0 64 "SkyListeners$Rows" "many" "I") (by decide +kernel)) (fun _ h9 => h9) rfl dX0_timesHeard_9 ?_
      refine lv_icmp_ge (tgt := 34) hx hb dX0_timesHeard_12 (by decide) (fun c_12 => ?_) (fun c_12 => ?_)
      · rw [if_pos c_12] at hrun
        refine lv_iload_n hx hb dX0_timesHeard_34 rfl (lv_at hl 2 rfl) ?_
        have hrun := Option.some.inj hrun
        subst hrun
        rw [hQ]
        exact W.iret (v := x2_4) hx hb hr (fun t ht hW => ⟨⟨x2_4, (), rfl, rfl, by rw [ht]; exact hP, hD⟩, hS.F ht⟩) hS.2.2 dX0_timesHeard_35
      · rw [if_neg c_12] at hrun
        refine lv_aload_n hx hb dX0_timesHeard_15 rfl (lv_at hl 0 rfl) ?_
        refine lv_iload_n hx hb dX0_timesHeard_16 rfl (lv_at hl 3 rfl) ?_
        refine lv_iload_n hx hb dX0_timesHeard_17 rfl (lv_at hl 1 rfl) ?_
        refine lv_iconst (v := 1) hx hb dX0_timesHeard_18 (by decide) ?_
        have hPc : va_P (dC, dI) vwCl [(p_this, .inr (0, [.ref p_mounts, .ref p_lendings, .ref p_log, .ref p_undos])), (p_log, .inr (2, [.int d_log_most, .ref p_log_cells, .int d_log_many])), (p_log_cells, .inl (cI, 48, .inl d_log_cells))] H := hP.sub [0, 1, 2] rfl
        have hDc : va_D A [(p_this, .inr (0, [.ref p_mounts, .ref p_lendings, .ref p_log, .ref p_undos])), (p_log, .inr (2, [.int d_log_most, .ref p_log_cells, .int d_log_many])), (p_log_cells, .inl (cI, 48, .inl d_log_cells))] := hD.sub [0, 1, 2] (by decide) rfl
        have hFc := va_free (wc := [(p_this, .inr (0, [.ref p_mounts, .ref p_lendings, .ref p_log, .ref p_undos])), (p_log, .inr (2, [.int d_log_most, .ref p_log_cells, .int d_log_many])), (p_log_cells, .inl (cI, 48, .inl d_log_cells))]) hD hS hA [0, 1, 2] rfl
        refine va_calli (va_runV (As := [.int x3_4, .int x1, .int 1]) (rest := []) ⟨hx, hb, hml, hown, hts⟩ (c_X0_isLogged l dC dI cI cZ H.size p_lendings p_log p_log_cells p_mounts p_this p_undos d_log_most d_log_many d_log_cells x3_4 x1 1 (f_X0_isLogged d_log_many d_log_cells x3_4 x1 1) rfl) (cwV 3 hts gX0_timesHeard_X0_isLogged rfl rfl rfl (by decide +kernel) ⟨Nat.le_of_ble_eq_true rfl, Nat.le_of_ble_eq_true rfl⟩) ⟨fun a U g mk q => ⟨q.1, PC.mv q.2⟩, va_recv hK hP (ci := 0) (q0 := 0) rfl rfl, fun U hU hW => ⟨rfl, PC.of hU hW hPc hK hDc hN⟩⟩ rfl rfl hl.1 rfl (lv_room (Nat.le_of_ble_eq_true rfl)) dX0_timesHeard_19 ⟨Nat.zero_le _, Nat.zero_le _⟩) hS (fun q _ h => hFc q h) hFc (fun r_19 u t H1 locs ht hvm hw hB hz1 hk1 hS => ?_)
        obtain ⟨hP1, hD1⟩ := hB
        try dsimp only at hw
        rw [hw]
        rw [ht] at hP1
        have hP : va_P (dC, dI) vwCl [(p_this, .inr (0, [.ref p_mounts, .ref p_lendings, .ref p_log, .ref p_undos])), (p_log, .inr (2, [.int d_log_most, .ref p_log_cells, .int d_log_many])), (p_log_cells, .inl (cI, 48, .inl d_log_cells))] H1 := join_ro hP hD [0, 1, 2] rfl hk1 hP1
        clear hPc hDc hFc hk1 hz1 hP1 hD1 ht hvm
        generalize H1 = H at hP hS ⊢
        have J28 : ∀ (x2_28 : Int32) (H : Heap) (locs : List Loc), va_P (dC, dI) vwCl [(p_this, .inr (0, [.ref p_mounts, .ref p_lendings, .ref p_log, .ref p_undos])), (p_log, .inr (2, [.int d_log_most, .ref p_log_cells, .int d_log_many])), (p_log_cells, .inl (cI, 48, .inl d_log_cells))] H → va_D A [(p_this, .inr (0, [.ref p_mounts, .ref p_lendings, .ref p_log, .ref p_undos])), (p_log, .inr (2, [.int d_log_most, .ref p_log_cells, .int d_log_many])), (p_log_cells, .inl (cI, 48, .inl d_log_cells))] → va_S A s.heap H locs → ∀ ls : Array Slot, lv_has ls 4 [(0, .ref p_this), (1, .int x1), (2, .int x2_28), (3, .int x3_4)] → f_X0_timesHeard_J28 (f_X0_timesHeard_L4 x1 d_log_many d_log_cells n9_4) x1 x3_4 d_log_many d_log_cells x2_28 = some out → W p l e ({ frames := 3, cells := 0, slots := 0, locals := 67 } : Room) s m ([.ref p_this, .int x1] : List Value).toArray below meth c H locs 0 0 Q (F0 m 28 ls []) := by
          intro x2_28 H locs hP hD hS ls hl hrun
          rw [f_X0_timesHeard_J28] at hrun
          refine lv_iinc (v := x3_4 + 1) (lv' := [(3, .int (x3_4 + 1)), (0, .ref p_this), (1, .int x1), (2, .int x2_28)]) hx hb dX0_timesHeard_28 hl (k := 3) rfl rfl (by decide) rfl (fun ls hl => ?_)
          refine lv_goto (tgt := 4) hx hb dX0_timesHeard_31 (by decide) ?_
          exact ih4 x2_28 (x3_4 + 1) H locs hP hD hS ls (lv_sub hl [1, 2, 3, 0] rfl) hrun
        refine lv_if_eq (tgt := 28) hx hb dX0_timesHeard_22 (by decide) (fun c_22 => ?_) (fun c_22 => ?_)
        · rw [if_pos c_22] at hrun
          exact J28 x2_4 H locs hP hD hS ls hl hrun
        · rw [if_neg c_22] at hrun
          refine lv_iinc (v := x2_4 + 1) (lv' := [(2, .int (x2_4 + 1)), (0, .ref p_this), (1, .int x1), (3, .int x3_4)]) hx hb dX0_timesHeard_25 hl (k := 2) rfl rfl (by decide) rfl (fun ls hl => ?_)
          exact J28 (x2_4 + 1) H locs hP hD hS ls (lv_sub hl [1, 2, 0, 3] rfl) hrun
  exact L4 FU 0 0 H locs hP hD hS ls (lv_sub hl [2, 3, 1, 0] rfl) hrun
-- SkyListeners$Now.isHeardElsewhere
def f_X0_isHeardElsewhere_J55 (K2 : Int32 → Option (Int32)) (x1 : Int32) (x2 : Int32) (x3 : Int32) (d_log_many : Int32) (d_log_cells : Nat → Int32) (d_mounts_many : Int32) (d_mounts_cells : Nat → Int32) : Option (Int32) := (K2 (x3 + 1))
def f_X0_isHeardElsewhere_L2 (x1 : Int32) (x2 : Int32) (d_log_many : Int32) (d_log_cells : Nat → Int32) (d_mounts_many : Int32) (d_mounts_cells : Nat → Int32) : Nat → Int32 → Option (Int32)
  | 0, _ => none
  | n9 + 1, x3 => (if d_log_many ≤ x3 then (some 0) else (if (f_X0_placeSeen d_mounts_many d_mounts_cells (f_X2_number d_log_many d_log_cells x3 1) (f_X2_number d_log_many d_log_cells x3 0)) = x2 then (f_X0_isHeardElsewhere_J55 (f_X0_isHeardElsewhere_L2  x1 x2 d_log_many d_log_cells d_mounts_many d_mounts_cells n9) x1 x2 x3 d_log_many d_log_cells d_mounts_many d_mounts_cells) else (if (f_X0_isLogged d_log_many d_log_cells x3 x1 1) = 0 then (f_X0_isHeardElsewhere_J55 (f_X0_isHeardElsewhere_L2  x1 x2 d_log_many d_log_cells d_mounts_many d_mounts_cells n9) x1 x2 x3 d_log_many d_log_cells d_mounts_many d_mounts_cells) else (some 1))))
def f_X0_isHeardElsewhere (d_log_many : Int32) (d_log_cells : Nat → Int32) (d_mounts_many : Int32) (d_mounts_cells : Nat → Int32) (x1 : Int32) (x2 : Int32) : Option (Int32) := (f_X0_isHeardElsewhere_L2 x1 x2 d_log_many d_log_cells d_mounts_many d_mounts_cells FU 0)
set_option maxHeartbeats 4000000 in
set_option maxRecDepth 100000 in
theorem c_X0_isHeardElsewhere (l : Launch) (dC : Nat → ClassId) (dI : Nat → Nat → Nat) (cI cZ : ClassId) (sz : Nat) (p_lendings p_log p_log_cells p_mounts p_mounts_cells p_this p_undos : Nat) (d_log_most : Int32) (d_log_many : Int32) (d_log_cells : Nat → Int32) (d_mounts_most : Int32) (d_mounts_many : Int32) (d_mounts_cells : Nat → Int32) (x1 : Int32) (x2 : Int32) (out : Int32) (hrun : f_X0_isHeardElsewhere d_log_many d_log_cells d_mounts_many d_mounts_cells x1 x2 = some out) : Met l yX0_isHeardElsewhere wsX0_isHeardElsewhere ({ frames := 3, cells := 0, slots := 0, locals := 67 } : Room) (va_Pc [.ref p_this, .int x1, .int x2] (PC dC dI cI cZ sz ([(p_this, .inr (0, [.ref p_mounts, .ref p_lendings, .ref p_log, .ref p_undos])), (p_log, .inr (2, [.int d_log_most, .ref p_log_cells, .int d_log_many])), (p_log_cells, .inl (cI, 48, .inl d_log_cells)), (p_mounts, .inr (2, [.int d_mounts_most, .ref p_mounts_cells, .int d_mounts_many])), (p_mounts_cells, .inl (cI, 48, .inl d_mounts_cells))] : va_W))) (va_Qi (fun r (_ : Unit) => r = out) (fun _ t => va_P (dC, dI) vwCl [(p_this, .inr (0, [.ref p_mounts, .ref p_lendings, .ref p_log, .ref p_undos])), (p_log, .inr (2, [.int d_log_most, .ref p_log_cells, .int d_log_many])), (p_log_cells, .inl (cI, 48, .inl d_log_cells)), (p_mounts, .inr (2, [.int d_mounts_most, .ref p_mounts_cells, .int d_mounts_many])), (p_mounts_cells, .inl (cI, 48, .inl d_mounts_cells))] t.heap ∧ va_D (va_A ([(p_this, .inr (0, [.ref p_mounts, .ref p_lendings, .ref p_log, .ref p_undos])), (p_log, .inr (2, [.int d_log_most, .ref p_log_cells, .int d_log_many])), (p_log_cells, .inl (cI, 48, .inl d_log_cells)), (p_mounts, .inr (2, [.int d_mounts_most, .ref p_mounts_cells, .int d_mounts_many])), (p_mounts_cells, .inl (cI, 48, .inl d_mounts_cells))] : va_W) sz) [(p_this, .inr (0, [.ref p_mounts, .ref p_lendings, .ref p_log, .ref p_undos])), (p_log, .inr (2, [.int d_log_most, .ref p_log_cells, .int d_log_many])), (p_log_cells, .inl (cI, 48, .inl d_log_cells)), (p_mounts, .inr (2, [.int d_mounts_most, .ref p_mounts_cells, .int d_mounts_many])), (p_mounts_cells, .inl (cI, 48, .inl d_mounts_cells))]) (va_A ([(p_this, .inr (0, [.ref p_mounts, .ref p_lendings, .ref p_log, .ref p_undos])), (p_log, .inr (2, [.int d_log_most, .ref p_log_cells, .int d_log_many])), (p_log_cells, .inl (cI, 48, .inl d_log_cells)), (p_mounts, .inr (2, [.int d_mounts_most, .ref p_mounts_cells, .int d_mounts_many])), (p_mounts_cells, .inl (cI, 48, .inl d_mounts_cells))] : va_W) sz)) 0 0 (va_A ([(p_this, .inr (0, [.ref p_mounts, .ref p_lendings, .ref p_log, .ref p_undos])), (p_log, .inr (2, [.int d_log_most, .ref p_log_cells, .int d_log_many])), (p_log_cells, .inl (cI, 48, .inl d_log_cells)), (p_mounts, .inr (2, [.int d_mounts_most, .ref p_mounts_cells, .int d_mounts_many])), (p_mounts_cells, .inl (cI, 48, .inl d_mounts_cells))] : va_W) sz) := by
  refine Met.ofW (cc := cX0_isHeardElsewhere) (maxL := 5) (ret := (some .boolean)) (by decide) rfl ?_
  intro p e s m args below meth c s₁ B hml hv
  obtain ⟨rfl, hsz, hP, hK, hD0, hN⟩ := hv
  have hx := B.exec
  have hb := B.bytes
  have hr := B.returns
  have hts := atoms_spec (ws := wsX0_isHeardElsewhere) B.pre
  have hown : s.vm.findClass RX0 = some m.cls := findClass_of_methodNamed B.named
  have hlocks := B.notSynchronized
  subst hsz
  have hD := hD0.self (sz := s.heap.size)
  generalize hAe : va_A ([(p_this, .inr (0, [.ref p_mounts, .ref p_lendings, .ref p_log, .ref p_undos])), (p_log, .inr (2, [.int d_log_most, .ref p_log_cells, .int d_log_many])), (p_log_cells, .inl (cI, 48, .inl d_log_cells)), (p_mounts, .inr (2, [.int d_mounts_most, .ref p_mounts_cells, .int d_mounts_many])), (p_mounts_cells, .inl (cI, 48, .inl d_mounts_cells))] : va_W) s.heap.size = A at hD ⊢
  have hA : ∀ q : Nat, s.heap.size ≤ q → A q := fun q h => by rw [← hAe]; exact Or.inr h
  have hS : va_S A s.heap s.heap [] := va_S.rf
  refine W_abs (fun Q hQ => ?_)
  have hl := lv_entry ([.ref p_this, .int x1, .int x2]) (n := 5) (Nat.le_of_ble_eq_true rfl)
  rw [lg_entry_eq]
  generalize (lg_sl ([.ref p_this, .int x1, .int x2]) ++ List.replicate (5 - (lg_sl ([.ref p_this, .int x1, .int x2])).length) Slot.unset).toArray = ls at hl ⊢
  have hl : lv_has ls 5 [(0, .ref p_this), (1, .int x1), (2, .int x2)] := hl
  rw [f_X0_isHeardElsewhere] at hrun
  refine W_start (ws := [(p_this, .inr (0, [.ref p_mounts, .ref p_lendings, .ref p_log, .ref p_undos])), (p_log, .inr (2, [.int d_log_most, .ref p_log_cells, .int d_log_many])), (p_log_cells, .inl (cI, 48, .inl d_log_cells)), (p_mounts, .inr (2, [.int d_mounts_most, .ref p_mounts_cells, .int d_mounts_many])), (p_mounts_cells, .inl (cI, 48, .inl d_mounts_cells))]) hP hS (fun H locs hP hS => ?_)
  have iwX0 : ∀ w ∈ wsX00, w ∈ wsX0_isHeardElsewhere := by decide +kernel
  have iwX2 : ∀ w ∈ wsX20, w ∈ wsX0_isHeardElsewhere := by decide +kernel
  refine lv_iconst (v := 0) hx hb dX0_isHeardElsewhere_0 (by decide) ?_
  refine lv_istore_n (lv' := [(3, .int 0), (0, .ref p_this), (1, .int x1), (2, .int x2)]) hx hb dX0_isHeardElsewhere_1 rfl hl (by decide) rfl (fun ls hl => ?_)
  have L2 : ∀ (n9_2 : Nat) (x3_2 : Int32) (H : Heap) (locs : List Loc), va_P (dC, dI) vwCl [(p_this, .inr (0, [.ref p_mounts, .ref p_lendings, .ref p_log, .ref p_undos])), (p_log, .inr (2, [.int d_log_most, .ref p_log_cells, .int d_log_many])), (p_log_cells, .inl (cI, 48, .inl d_log_cells)), (p_mounts, .inr (2, [.int d_mounts_most, .ref p_mounts_cells, .int d_mounts_many])), (p_mounts_cells, .inl (cI, 48, .inl d_mounts_cells))] H → va_D A [(p_this, .inr (0, [.ref p_mounts, .ref p_lendings, .ref p_log, .ref p_undos])), (p_log, .inr (2, [.int d_log_most, .ref p_log_cells, .int d_log_many])), (p_log_cells, .inl (cI, 48, .inl d_log_cells)), (p_mounts, .inr (2, [.int d_mounts_most, .ref p_mounts_cells, .int d_mounts_many])), (p_mounts_cells, .inl (cI, 48, .inl d_mounts_cells))] → va_S A s.heap H locs → ∀ ls : Array Slot, lv_has ls 5 [(0, .ref p_this), (1, .int x1), (2, .int x2), (3, .int x3_2)] → f_X0_isHeardElsewhere_L2 x1 x2 d_log_many d_log_cells d_mounts_many d_mounts_cells n9_2 x3_2 = some out → W p l e ({ frames := 3, cells := 0, slots := 0, locals := 67 } : Room) s m ([.ref p_this, .int x1, .int x2] : List Value).toArray below meth c H locs 0 0 Q (F0 m 2 ls []) := by
    intro n9_2
    induction n9_2 with
    | zero =>
      intro x3_2 H locs hP hD hS ls hl hrun
      rw [f_X0_isHeardElsewhere_L2] at hrun
      cases hrun
    | succ n9_2 ih2 =>
      intro x3_2 H locs hP hD hS ls hl hrun
      rw [f_X0_isHeardElsewhere_L2] at hrun
      refine lv_iload_n hx hb dX0_isHeardElsewhere_2 rfl (lv_at hl 3 rfl) ?_
      refine lv_aload_n hx hb dX0_isHeardElsewhere_3 rfl (lv_at hl 0 rfl) ?_
      refine va_get (D := (dC, dI)) (ci := 0) (v := .ref p_log) (C := RX0) (T := TX0) (N := 4) hx hb hts iwX0 hown hK hP 0 rfl rfl 2 (by decide) (hts (.fieldLink RX0 23 "SkyListeners$Now" "log" "LSkyListeners$Rows;") (by decide +kernel)) (fun _ h9 => h9) rfl dX0_isHeardElsewhere_4 ?_
      refine va_get (D := (dC, dI)) (ci := 2) (v := .int d_log_many) (C := RX2) (T := TX2) (N := 3) hx hb hts iwX2 hown hK hP 1 rfl rfl 2 (by decide) (hts (.fieldLink RX0 64 "SkyListeners$Rows" "many" "I") (by decide +kernel)) (fun _ h9 => h9) rfl dX0_isHeardElsewhere_7 ?_
      refine lv_icmp_ge (tgt := 61) hx hb dX0_isHeardElsewhere_10 (by decide) (fun c_10 => ?_) (fun c_10 => ?_)
      · rw [if_pos c_10] at hrun
        refine lv_iconst (v := 0) hx hb dX0_isHeardElsewhere_61 (by decide) ?_
        have hrun := Option.some.inj hrun
        subst hrun
        rw [hQ]
        exact W.zret (v := 0) (ty := .boolean) hx hb hr rfl (fun t ht hW => ⟨⟨0, (), rfl, rfl, by rw [ht]; exact hP, hD⟩, hS.F ht⟩) hS.2.2 dX0_isHeardElsewhere_62
      · rw [if_neg c_10] at hrun
        refine lv_aload_n hx hb dX0_isHeardElsewhere_13 rfl (lv_at hl 0 rfl) ?_
        refine lv_aload_n hx hb dX0_isHeardElsewhere_14 rfl (lv_at hl 0 rfl) ?_
        refine va_get (D := (dC, dI)) (ci := 0) (v := .ref p_log) (C := RX0) (T := TX0) (N := 4) hx hb hts iwX0 hown hK hP 0 rfl rfl 2 (by decide) (hts (.fieldLink RX0 23 "SkyListeners$Now" "log" "LSkyListeners$Rows;") (by decide +kernel)) (fun _ h9 => h9) rfl dX0_isHeardElsewhere_15 ?_
        refine lv_iload_n hx hb dX0_isHeardElsewhere_18 rfl (lv_at hl 3 rfl) ?_
        refine lv_iconst (v := 1) hx hb dX0_isHeardElsewhere_19 (by decide) ?_
        have hPc : va_P (dC, dI) vwCl [(p_log, .inr (2, [.int d_log_most, .ref p_log_cells, .int d_log_many])), (p_log_cells, .inl (cI, 48, .inl d_log_cells))] H := hP.sub [1, 2] rfl
        have hDc : va_D A [(p_log, .inr (2, [.int d_log_most, .ref p_log_cells, .int d_log_many])), (p_log_cells, .inl (cI, 48, .inl d_log_cells))] := hD.sub [1, 2] (by decide) rfl
        have hFc := va_free (wc := [(p_log, .inr (2, [.int d_log_most, .ref p_log_cells, .int d_log_many])), (p_log_cells, .inl (cI, 48, .inl d_log_cells))]) hD hS hA [1, 2] rfl
        refine va_calli (va_runV (As := [.int x3_2, .int 1]) (rest := [.ref p_this]) ⟨hx, hb, hml, hown, hts⟩ (c_X2_number l dC dI cI cZ H.size p_log_cells p_log d_log_most d_log_many d_log_cells x3_2 1 (f_X2_number d_log_many d_log_cells x3_2 1) rfl) (cwV 2 hts gX0_isHeardElsewhere_X2_number rfl rfl rfl (by decide +kernel) ⟨Nat.le_of_ble_eq_true rfl, Nat.le_of_ble_eq_true rfl⟩) ⟨fun a U g mk q => ⟨q.1, PC.mv q.2⟩, va_recv hK hP (ci := 2) (q0 := 1) rfl rfl, fun U hU hW => ⟨rfl, PC.of hU hW hPc hK hDc hN⟩⟩ rfl rfl hl.1 rfl (lv_room (Nat.le_of_ble_eq_true rfl)) dX0_isHeardElsewhere_20 ⟨Nat.zero_le _, Nat.zero_le _⟩) hS (fun q _ h => hFc q h) hFc (fun r_20 u t H1 locs ht hvm hw hB hz1 hk1 hS => ?_)
        obtain ⟨hP1, hD1⟩ := hB
        try dsimp only at hw
        rw [hw]
        rw [ht] at hP1
        have hP : va_P (dC, dI) vwCl [(p_this, .inr (0, [.ref p_mounts, .ref p_lendings, .ref p_log, .ref p_undos])), (p_log, .inr (2, [.int d_log_most, .ref p_log_cells, .int d_log_many])), (p_log_cells, .inl (cI, 48, .inl d_log_cells)), (p_mounts, .inr (2, [.int d_mounts_most, .ref p_mounts_cells, .int d_mounts_many])), (p_mounts_cells, .inl (cI, 48, .inl d_mounts_cells))] H1 := join_ro hP hD [1, 2] rfl hk1 hP1
        clear hPc hDc hFc hk1 hz1 hP1 hD1 ht hvm
        generalize H1 = H at hP hS ⊢
        refine lv_aload_n hx hb dX0_isHeardElsewhere_23 rfl (lv_at hl 0 rfl) ?_
        refine va_get (D := (dC, dI)) (ci := 0) (v := .ref p_log) (C := RX0) (T := TX0) (N := 4) hx hb hts iwX0 hown hK hP 0 rfl rfl 2 (by decide) (hts (.fieldLink RX0 23 "SkyListeners$Now" "log" "LSkyListeners$Rows;") (by decide +kernel)) (fun _ h9 => h9) rfl dX0_isHeardElsewhere_24 ?_
        refine lv_iload_n hx hb dX0_isHeardElsewhere_27 rfl (lv_at hl 3 rfl) ?_
        refine lv_iconst (v := 0) hx hb dX0_isHeardElsewhere_28 (by decide) ?_
        have hPc : va_P (dC, dI) vwCl [(p_log, .inr (2, [.int d_log_most, .ref p_log_cells, .int d_log_many])), (p_log_cells, .inl (cI, 48, .inl d_log_cells))] H := hP.sub [1, 2] rfl
        have hDc : va_D A [(p_log, .inr (2, [.int d_log_most, .ref p_log_cells, .int d_log_many])), (p_log_cells, .inl (cI, 48, .inl d_log_cells))] := hD.sub [1, 2] (by decide) rfl
        have hFc := va_free (wc := [(p_log, .inr (2, [.int d_log_most, .ref p_log_cells, .int d_log_many])), (p_log_cells, .inl (cI, 48, .inl d_log_cells))]) hD hS hA [1, 2] rfl
        refine va_calli (va_runV (As := [.int x3_2, .int 0]) (rest := [.int (f_X2_number d_log_many d_log_cells x3_2 1), .ref p_this]) ⟨hx, hb, hml, hown, hts⟩ (c_X2_number l dC dI cI cZ H.size p_log_cells p_log d_log_most d_log_many d_log_cells x3_2 0 (f_X2_number d_log_many d_log_cells x3_2 0) rfl) (cwV 2 hts gX0_isHeardElsewhere_X2_number rfl rfl rfl (by decide +kernel) ⟨Nat.le_of_ble_eq_true rfl, Nat.le_of_ble_eq_true rfl⟩) ⟨fun a U g mk q => ⟨q.1, PC.mv q.2⟩, va_recv hK hP (ci := 2) (q0 := 1) rfl rfl, fun U hU hW => ⟨rfl, PC.of hU hW hPc hK hDc hN⟩⟩ rfl rfl hl.1 rfl (lv_room (Nat.le_of_ble_eq_true rfl)) dX0_isHeardElsewhere_29 ⟨Nat.zero_le _, Nat.zero_le _⟩) hS (fun q _ h => hFc q h) hFc (fun r_29 u t H1 locs ht hvm hw hB hz1 hk1 hS => ?_)
        obtain ⟨hP1, hD1⟩ := hB
        try dsimp only at hw
        rw [hw]
        rw [ht] at hP1
        have hP : va_P (dC, dI) vwCl [(p_this, .inr (0, [.ref p_mounts, .ref p_lendings, .ref p_log, .ref p_undos])), (p_log, .inr (2, [.int d_log_most, .ref p_log_cells, .int d_log_many])), (p_log_cells, .inl (cI, 48, .inl d_log_cells)), (p_mounts, .inr (2, [.int d_mounts_most, .ref p_mounts_cells, .int d_mounts_many])), (p_mounts_cells, .inl (cI, 48, .inl d_mounts_cells))] H1 := join_ro hP hD [1, 2] rfl hk1 hP1
        clear hPc hDc hFc hk1 hz1 hP1 hD1 ht hvm
        generalize H1 = H at hP hS ⊢
        have hPc : va_P (dC, dI) vwCl [(p_this, .inr (0, [.ref p_mounts, .ref p_lendings, .ref p_log, .ref p_undos])), (p_mounts, .inr (2, [.int d_mounts_most, .ref p_mounts_cells, .int d_mounts_many])), (p_mounts_cells, .inl (cI, 48, .inl d_mounts_cells))] H := hP.sub [0, 3, 4] rfl
        have hDc : va_D A [(p_this, .inr (0, [.ref p_mounts, .ref p_lendings, .ref p_log, .ref p_undos])), (p_mounts, .inr (2, [.int d_mounts_most, .ref p_mounts_cells, .int d_mounts_many])), (p_mounts_cells, .inl (cI, 48, .inl d_mounts_cells))] := hD.sub [0, 3, 4] (by decide) rfl
        have hFc := va_free (wc := [(p_this, .inr (0, [.ref p_mounts, .ref p_lendings, .ref p_log, .ref p_undos])), (p_mounts, .inr (2, [.int d_mounts_most, .ref p_mounts_cells, .int d_mounts_many])), (p_mounts_cells, .inl (cI, 48, .inl d_mounts_cells))]) hD hS hA [0, 3, 4] rfl
        refine va_calli (va_runV (As := [.int (f_X2_number d_log_many d_log_cells x3_2 1), .int (f_X2_number d_log_many d_log_cells x3_2 0)]) (rest := []) ⟨hx, hb, hml, hown, hts⟩ (c_X0_placeSeen l dC dI cI cZ H.size p_lendings p_log p_mounts p_mounts_cells p_this p_undos d_mounts_most d_mounts_many d_mounts_cells (f_X2_number d_log_many d_log_cells x3_2 1) (f_X2_number d_log_many d_log_cells x3_2 0) (f_X0_placeSeen d_mounts_many d_mounts_cells (f_X2_number d_log_many d_log_cells x3_2 1) (f_X2_number d_log_many d_log_cells x3_2 0)) rfl) (cwV 2 hts gX0_isHeardElsewhere_X0_placeSeen rfl rfl rfl (by decide +kernel) ⟨Nat.le_of_ble_eq_true rfl, Nat.le_of_ble_eq_true rfl⟩) ⟨fun a U g mk q => ⟨q.1, PC.mv q.2⟩, va_recv hK hP (ci := 0) (q0 := 0) rfl rfl, fun U hU hW => ⟨rfl, PC.of hU hW hPc hK hDc hN⟩⟩ rfl rfl hl.1 rfl (lv_room (Nat.le_of_ble_eq_true rfl)) dX0_isHeardElsewhere_32 ⟨Nat.zero_le _, Nat.zero_le _⟩) hS (fun q _ h => hFc q h) hFc (fun r_32 u t H1 locs ht hvm hw hB hz1 hk1 hS => ?_)
        obtain ⟨hP1, hD1⟩ := hB
        try dsimp only at hw
        rw [hw]
        rw [ht] at hP1
        have hP : va_P (dC, dI) vwCl [(p_this, .inr (0, [.ref p_mounts, .ref p_lendings, .ref p_log, .ref p_undos])), (p_log, .inr (2, [.int d_log_most, .ref p_log_cells, .int d_log_many])), (p_log_cells, .inl (cI, 48, .inl d_log_cells)), (p_mounts, .inr (2, [.int d_mounts_most, .ref p_mounts_cells, .int d_mounts_many])), (p_mounts_cells, .inl (cI, 48, .inl d_mounts_cells))] H1 := join_ro hP hD [0, 3, 4] rfl hk1 hP1
        clear hPc hDc hFc hk1 hz1 hP1 hD1 ht hvm
        generalize H1 = H at hP hS ⊢
        refine lv_istore (lv' := [(4, .int (f_X0_placeSeen d_mounts_many d_mounts_cells (f_X2_number d_log_many d_log_cells x3_2 1) (f_X2_number d_log_many d_log_cells x3_2 0))), (0, .ref p_this), (1, .int x1), (2, .int x2), (3, .int x3_2)]) hx hb dX0_isHeardElsewhere_35 hl (by decide) rfl (fun ls hl => ?_)
        refine lv_iload hx hb dX0_isHeardElsewhere_37 (lv_at hl 0 rfl) ?_
        refine lv_iload_n hx hb dX0_isHeardElsewhere_39 rfl (lv_at hl 3 rfl) ?_
        have J55 : ∀  (H : Heap) (locs : List Loc), va_P (dC, dI) vwCl [(p_this, .inr (0, [.ref p_mounts, .ref p_lendings, .ref p_log, .ref p_undos])), (p_log, .inr (2, [.int d_log_most, .ref p_log_cells, .int d_log_many])), (p_log_cells, .inl (cI, 48, .inl d_log_cells)), (p_mounts, .inr (2, [.int d_mounts_most, .ref p_mounts_cells, .int d_mounts_many])), (p_mounts_cells, .inl (cI, 48, .inl d_mounts_cells))] H → va_D A [(p_this, .inr (0, [.ref p_mounts, .ref p_lendings, .ref p_log, .ref p_undos])), (p_log, .inr (2, [.int d_log_most, .ref p_log_cells, .int d_log_many])), (p_log_cells, .inl (cI, 48, .inl d_log_cells)), (p_mounts, .inr (2, [.int d_mounts_most, .ref p_mounts_cells, .int d_mounts_many])), (p_mounts_cells, .inl (cI, 48, .inl d_mounts_cells))] → va_S A s.heap H locs → ∀ ls : Array Slot, lv_has ls 5 [(0, .ref p_this), (1, .int x1), (2, .int x2), (3, .int x3_2)] → f_X0_isHeardElsewhere_J55 (f_X0_isHeardElsewhere_L2 x1 x2 d_log_many d_log_cells d_mounts_many d_mounts_cells n9_2) x1 x2 x3_2 d_log_many d_log_cells d_mounts_many d_mounts_cells = some out → W p l e ({ frames := 3, cells := 0, slots := 0, locals := 67 } : Room) s m ([.ref p_this, .int x1, .int x2] : List Value).toArray below meth c H locs 0 0 Q (F0 m 55 ls []) := by
          intro H locs hP hD hS ls hl hrun
          rw [f_X0_isHeardElsewhere_J55] at hrun
          refine lv_iinc (v := x3_2 + 1) (lv' := [(3, .int (x3_2 + 1)), (0, .ref p_this), (1, .int x1), (2, .int x2)]) hx hb dX0_isHeardElsewhere_55 hl (k := 3) rfl rfl (by decide) rfl (fun ls hl => ?_)
          refine lv_goto (tgt := 2) hx hb dX0_isHeardElsewhere_58 (by decide) ?_
          exact ih2 (x3_2 + 1) H locs hP hD hS ls (lv_sub hl [1, 2, 3, 0] rfl) hrun
        refine lv_icmp_eq (tgt := 55) hx hb dX0_isHeardElsewhere_40 (by decide) (fun c_40 => ?_) (fun c_40 => ?_)
        · rw [if_pos c_40] at hrun
          exact J55 H locs hP hD hS ls (lv_sub hl [1, 2, 3, 4] rfl) hrun
        · rw [if_neg c_40] at hrun
          refine lv_aload_n hx hb dX0_isHeardElsewhere_43 rfl (lv_at hl 1 rfl) ?_
          refine lv_iload_n hx hb dX0_isHeardElsewhere_44 rfl (lv_at hl 4 rfl) ?_
          refine lv_iload_n hx hb dX0_isHeardElsewhere_45 rfl (lv_at hl 2 rfl) ?_
          refine lv_iconst (v := 1) hx hb dX0_isHeardElsewhere_46 (by decide) ?_
          have hPc : va_P (dC, dI) vwCl [(p_this, .inr (0, [.ref p_mounts, .ref p_lendings, .ref p_log, .ref p_undos])), (p_log, .inr (2, [.int d_log_most, .ref p_log_cells, .int d_log_many])), (p_log_cells, .inl (cI, 48, .inl d_log_cells))] H := hP.sub [0, 1, 2] rfl
          have hDc : va_D A [(p_this, .inr (0, [.ref p_mounts, .ref p_lendings, .ref p_log, .ref p_undos])), (p_log, .inr (2, [.int d_log_most, .ref p_log_cells, .int d_log_many])), (p_log_cells, .inl (cI, 48, .inl d_log_cells))] := hD.sub [0, 1, 2] (by decide) rfl
          have hFc := va_free (wc := [(p_this, .inr (0, [.ref p_mounts, .ref p_lendings, .ref p_log, .ref p_undos])), (p_log, .inr (2, [.int d_log_most, .ref p_log_cells, .int d_log_many])), (p_log_cells, .inl (cI, 48, .inl d_log_cells))]) hD hS hA [0, 1, 2] rfl
          refine va_calli (va_runV (As := [.int x3_2, .int x1, .int 1]) (rest := []) ⟨hx, hb, hml, hown, hts⟩ (c_X0_isLogged l dC dI cI cZ H.size p_lendings p_log p_log_cells p_mounts p_this p_undos d_log_most d_log_many d_log_cells x3_2 x1 1 (f_X0_isLogged d_log_many d_log_cells x3_2 x1 1) rfl) (cwV 3 hts gX0_isHeardElsewhere_X0_isLogged rfl rfl rfl (by decide +kernel) ⟨Nat.le_of_ble_eq_true rfl, Nat.le_of_ble_eq_true rfl⟩) ⟨fun a U g mk q => ⟨q.1, PC.mv q.2⟩, va_recv hK hP (ci := 0) (q0 := 0) rfl rfl, fun U hU hW => ⟨rfl, PC.of hU hW hPc hK hDc hN⟩⟩ rfl rfl hl.1 rfl (lv_room (Nat.le_of_ble_eq_true rfl)) dX0_isHeardElsewhere_47 ⟨Nat.zero_le _, Nat.zero_le _⟩) hS (fun q _ h => hFc q h) hFc (fun r_47 u t H1 locs ht hvm hw hB hz1 hk1 hS => ?_)
          obtain ⟨hP1, hD1⟩ := hB
          try dsimp only at hw
          rw [hw]
          rw [ht] at hP1
          have hP : va_P (dC, dI) vwCl [(p_this, .inr (0, [.ref p_mounts, .ref p_lendings, .ref p_log, .ref p_undos])), (p_log, .inr (2, [.int d_log_most, .ref p_log_cells, .int d_log_many])), (p_log_cells, .inl (cI, 48, .inl d_log_cells)), (p_mounts, .inr (2, [.int d_mounts_most, .ref p_mounts_cells, .int d_mounts_many])), (p_mounts_cells, .inl (cI, 48, .inl d_mounts_cells))] H1 := join_ro hP hD [0, 1, 2] rfl hk1 hP1
          clear hPc hDc hFc hk1 hz1 hP1 hD1 ht hvm
          generalize H1 = H at hP hS ⊢
          refine lv_if_eq (tgt := 55) hx hb dX0_isHeardElsewhere_50 (by decide) (fun c_50 => ?_) (fun c_50 => ?_)
          · rw [if_pos c_50] at hrun
            exact J55 H locs hP hD hS ls (lv_sub hl [1, 2, 3, 4] rfl) hrun
          · rw [if_neg c_50] at hrun
            refine lv_iconst (v := 1) hx hb dX0_isHeardElsewhere_53 (by decide) ?_
            have hrun := Option.some.inj hrun
            subst hrun
            rw [hQ]
            exact W.zret (v := 1) (ty := .boolean) hx hb hr rfl (fun t ht hW => ⟨⟨1, (), rfl, rfl, by rw [ht]; exact hP, hD⟩, hS.F ht⟩) hS.2.2 dX0_isHeardElsewhere_54
  exact L2 FU 0 H locs hP hD hS ls (lv_sub hl [1, 2, 3, 0] rfl) hrun
-- SkyListeners$Now.hoursLogged
def f_X0_hoursLogged_J70 (K6 : Int32 → Int32 → Option (Int32)) (x1 : Int32) (x2 : Int32) (x3 : Int32) (x5 : Int32) (d_log_many : Int32) (d_log_cells : Nat → Int32) (d_mounts_many : Int32) (d_mounts_cells : Nat → Int32) (x4 : Int32) : Option (Int32) := (K6 x4 (x5 + 1))
def f_X0_hoursLogged_L6 (x1 : Int32) (x2 : Int32) (x3 : Int32) (d_log_many : Int32) (d_log_cells : Nat → Int32) (d_mounts_many : Int32) (d_mounts_cells : Nat → Int32) : Nat → Int32 → Int32 → Option (Int32)
  | 0, _, _ => none
  | n9 + 1, x4, x5 => (if d_log_many ≤ x5 then (some x4) else (if (f_X0_isLogged d_log_many d_log_cells x5 x1 x3) = 0 then (f_X0_hoursLogged_J70 (f_X0_hoursLogged_L6  x1 x2 x3 d_log_many d_log_cells d_mounts_many d_mounts_cells n9) x1 x2 x3 x5 d_log_many d_log_cells d_mounts_many d_mounts_cells x4) else (if (f_X0_placeSeen d_mounts_many d_mounts_cells (f_X2_number d_log_many d_log_cells x5 1) (f_X2_number d_log_many d_log_cells x5 0)) = x2 then (f_X0_hoursLogged_J70 (f_X0_hoursLogged_L6  x1 x2 x3 d_log_many d_log_cells d_mounts_many d_mounts_cells n9) x1 x2 x3 x5 d_log_many d_log_cells d_mounts_many d_mounts_cells (x4 ||| (1 <<< ((f_X2_number d_log_many d_log_cells x5 0) &&& 31)))) else (f_X0_hoursLogged_J70 (f_X0_hoursLogged_L6  x1 x2 x3 d_log_many d_log_cells d_mounts_many d_mounts_cells n9) x1 x2 x3 x5 d_log_many d_log_cells d_mounts_many d_mounts_cells x4))))
def f_X0_hoursLogged (d_log_many : Int32) (d_log_cells : Nat → Int32) (d_mounts_many : Int32) (d_mounts_cells : Nat → Int32) (x1 : Int32) (x2 : Int32) (x3 : Int32) : Option (Int32) := (f_X0_hoursLogged_L6 x1 x2 x3 d_log_many d_log_cells d_mounts_many d_mounts_cells FU 0 0)
set_option maxHeartbeats 4000000 in
set_option maxRecDepth 100000 in
theorem c_X0_hoursLogged (l : Launch) (dC : Nat → ClassId) (dI : Nat → Nat → Nat) (cI cZ : ClassId) (sz : Nat) (p_lendings p_log p_log_cells p_mounts p_mounts_cells p_this p_undos : Nat) (d_log_most : Int32) (d_log_many : Int32) (d_log_cells : Nat → Int32) (d_mounts_most : Int32) (d_mounts_many : Int32) (d_mounts_cells : Nat → Int32) (x1 : Int32) (x2 : Int32) (x3 : Int32) (out : Int32) (hrun : f_X0_hoursLogged d_log_many d_log_cells d_mounts_many d_mounts_cells x1 x2 x3 = some out) : Met l yX0_hoursLogged wsX0_hoursLogged ({ frames := 3, cells := 0, slots := 0, locals := 67 } : Room) (va_Pc [.ref p_this, .int x1, .int x2, .int x3] (PC dC dI cI cZ sz ([(p_this, .inr (0, [.ref p_mounts, .ref p_lendings, .ref p_log, .ref p_undos])), (p_log, .inr (2, [.int d_log_most, .ref p_log_cells, .int d_log_many])), (p_log_cells, .inl (cI, 48, .inl d_log_cells)), (p_mounts, .inr (2, [.int d_mounts_most, .ref p_mounts_cells, .int d_mounts_many])), (p_mounts_cells, .inl (cI, 48, .inl d_mounts_cells))] : va_W))) (va_Qi (fun r (_ : Unit) => r = out) (fun _ t => va_P (dC, dI) vwCl [(p_this, .inr (0, [.ref p_mounts, .ref p_lendings, .ref p_log, .ref p_undos])), (p_log, .inr (2, [.int d_log_most, .ref p_log_cells, .int d_log_many])), (p_log_cells, .inl (cI, 48, .inl d_log_cells)), (p_mounts, .inr (2, [.int d_mounts_most, .ref p_mounts_cells, .int d_mounts_many])), (p_mounts_cells, .inl (cI, 48, .inl d_mounts_cells))] t.heap ∧ va_D (va_A ([(p_this, .inr (0, [.ref p_mounts, .ref p_lendings, .ref p_log, .ref p_undos])), (p_log, .inr (2, [.int d_log_most, .ref p_log_cells, .int d_log_many])), (p_log_cells, .inl (cI, 48, .inl d_log_cells)), (p_mounts, .inr (2, [.int d_mounts_most, .ref p_mounts_cells, .int d_mounts_many])), (p_mounts_cells, .inl (cI, 48, .inl d_mounts_cells))] : va_W) sz) [(p_this, .inr (0, [.ref p_mounts, .ref p_lendings, .ref p_log, .ref p_undos])), (p_log, .inr (2, [.int d_log_most, .ref p_log_cells, .int d_log_many])), (p_log_cells, .inl (cI, 48, .inl d_log_cells)), (p_mounts, .inr (2, [.int d_mounts_most, .ref p_mounts_cells, .int d_mounts_many])), (p_mounts_cells, .inl (cI, 48, .inl d_mounts_cells))]) (va_A ([(p_this, .inr (0, [.ref p_mounts, .ref p_lendings, .ref p_log, .ref p_undos])), (p_log, .inr (2, [.int d_log_most, .ref p_log_cells, .int d_log_many])), (p_log_cells, .inl (cI, 48, .inl d_log_cells)), (p_mounts, .inr (2, [.int d_mounts_most, .ref p_mounts_cells, .int d_mounts_many])), (p_mounts_cells, .inl (cI, 48, .inl d_mounts_cells))] : va_W) sz)) 0 0 (va_A ([(p_this, .inr (0, [.ref p_mounts, .ref p_lendings, .ref p_log, .ref p_undos])), (p_log, .inr (2, [.int d_log_most, .ref p_log_cells, .int d_log_many])), (p_log_cells, .inl (cI, 48, .inl d_log_cells)), (p_mounts, .inr (2, [.int d_mounts_most, .ref p_mounts_cells, .int d_mounts_many])), (p_mounts_cells, .inl (cI, 48, .inl d_mounts_cells))] : va_W) sz) := by
  refine Met.ofW (cc := cX0_hoursLogged) (maxL := 7) (ret := (some .int)) (by decide) rfl ?_
  intro p e s m args below meth c s₁ B hml hv
  obtain ⟨rfl, hsz, hP, hK, hD0, hN⟩ := hv
  have hx := B.exec
  have hb := B.bytes
  have hr := B.returns
  have hts := atoms_spec (ws := wsX0_hoursLogged) B.pre
  have hown : s.vm.findClass RX0 = some m.cls := findClass_of_methodNamed B.named
  have hlocks := B.notSynchronized
  subst hsz
  have hD := hD0.self (sz := s.heap.size)
  generalize hAe : va_A ([(p_this, .inr (0, [.ref p_mounts, .ref p_lendings, .ref p_log, .ref p_undos])), (p_log, .inr (2, [.int d_log_most, .ref p_log_cells, .int d_log_many])), (p_log_cells, .inl (cI, 48, .inl d_log_cells)), (p_mounts, .inr (2, [.int d_mounts_most, .ref p_mounts_cells, .int d_mounts_many])), (p_mounts_cells, .inl (cI, 48, .inl d_mounts_cells))] : va_W) s.heap.size = A at hD ⊢
  have hA : ∀ q : Nat, s.heap.size ≤ q → A q := fun q h => by rw [← hAe]; exact Or.inr h
  have hS : va_S A s.heap s.heap [] := va_S.rf
  refine W_abs (fun Q hQ => ?_)
  have hl := lv_entry ([.ref p_this, .int x1, .int x2, .int x3]) (n := 7) (Nat.le_of_ble_eq_true rfl)
  rw [lg_entry_eq]
  generalize (lg_sl ([.ref p_this, .int x1, .int x2, .int x3]) ++ List.replicate (7 - (lg_sl ([.ref p_this, .int x1, .int x2, .int x3])).length) Slot.unset).toArray = ls at hl ⊢
  have hl : lv_has ls 7 [(0, .ref p_this), (1, .int x1), (2, .int x2), (3, .int x3)] := hl
  rw [f_X0_hoursLogged] at hrun
  refine W_start (ws := [(p_this, .inr (0, [.ref p_mounts, .ref p_lendings, .ref p_log, .ref p_undos])), (p_log, .inr (2, [.int d_log_most, .ref p_log_cells, .int d_log_many])), (p_log_cells, .inl (cI, 48, .inl d_log_cells)), (p_mounts, .inr (2, [.int d_mounts_most, .ref p_mounts_cells, .int d_mounts_many])), (p_mounts_cells, .inl (cI, 48, .inl d_mounts_cells))]) hP hS (fun H locs hP hS => ?_)
  have iwX0 : ∀ w ∈ wsX00, w ∈ wsX0_hoursLogged := by decide +kernel
  have iwX2 : ∀ w ∈ wsX20, w ∈ wsX0_hoursLogged := by decide +kernel
  refine lv_iconst (v := 0) hx hb dX0_hoursLogged_0 (by decide) ?_
  refine lv_istore (lv' := [(4, .int 0), (0, .ref p_this), (1, .int x1), (2, .int x2), (3, .int x3)]) hx hb dX0_hoursLogged_1 hl (by decide) rfl (fun ls hl => ?_)
  refine lv_iconst (v := 0) hx hb dX0_hoursLogged_3 (by decide) ?_
  refine lv_istore (lv' := [(5, .int 0), (4, .int 0), (0, .ref p_this), (1, .int x1), (2, .int x2), (3, .int x3)]) hx hb dX0_hoursLogged_4 hl (by decide) rfl (fun ls hl => ?_)
  have L6 : ∀ (n9_6 : Nat) (x4_6 : Int32) (x5_6 : Int32) (H : Heap) (locs : List Loc), va_P (dC, dI) vwCl [(p_this, .inr (0, [.ref p_mounts, .ref p_lendings, .ref p_log, .ref p_undos])), (p_log, .inr (2, [.int d_log_most, .ref p_log_cells, .int d_log_many])), (p_log_cells, .inl (cI, 48, .inl d_log_cells)), (p_mounts, .inr (2, [.int d_mounts_most, .ref p_mounts_cells, .int d_mounts_many])), (p_mounts_cells, .inl (cI, 48, .inl d_mounts_cells))] H → va_D A [(p_this, .inr (0, [.ref p_mounts, .ref p_lendings, .ref p_log, .ref p_undos])), (p_log, .inr (2, [.int d_log_most, .ref p_log_cells, .int d_log_many])), (p_log_cells, .inl (cI, 48, .inl d_log_cells)), (p_mounts, .inr (2, [.int d_mounts_most, .ref p_mounts_cells, .int d_mounts_many])), (p_mounts_cells, .inl (cI, 48, .inl d_mounts_cells))] → va_S A s.heap H locs → ∀ ls : Array Slot, lv_has ls 7 [(0, .ref p_this), (1, .int x1), (2, .int x2), (3, .int x3), (4, .int x4_6), (5, .int x5_6)] → f_X0_hoursLogged_L6 x1 x2 x3 d_log_many d_log_cells d_mounts_many d_mounts_cells n9_6 x4_6 x5_6 = some out → W p l e ({ frames := 3, cells := 0, slots := 0, locals := 67 } : Room) s m ([.ref p_this, .int x1, .int x2, .int x3] : List Value).toArray below meth c H locs 0 0 Q (F0 m 6 ls []) := by
    intro n9_6
    induction n9_6 with
    | zero =>
      intro x4_6 x5_6 H locs hP hD hS ls hl hrun
      rw [f_X0_hoursLogged_L6] at hrun
      cases hrun
    | succ n9_6 ih6 =>
      intro x4_6 x5_6 H locs hP hD hS ls hl hrun
      rw [f_X0_hoursLogged_L6] at hrun
      refine lv_iload hx hb dX0_hoursLogged_6 (lv_at hl 5 rfl) ?_
      refine lv_aload_n hx hb dX0_hoursLogged_8 rfl (lv_at hl 0 rfl) ?_
      refine va_get (D := (dC, dI)) (ci := 0) (v := .ref p_log) (C := RX0) (T := TX0) (N := 4) hx hb hts iwX0 hown hK hP 0 rfl rfl 2 (by decide) (hts (.fieldLink RX0 23 "SkyListeners$Now" "log" "LSkyListeners$Rows;") (by decide +kernel)) (fun _ h9 => h9) rfl dX0_hoursLogged_9 ?_
      refine va_get (D := (dC, dI)) (ci := 2) (v := .int d_log_many) (C := RX2) (T := TX2) (N := 3) hx hb hts iwX2 hown hK hP 1 rfl rfl 2 (by decide) (hts (.fieldLink RX0 64 "SkyListeners$Rows" "many" "I") (by decide +kernel)) (fun _ h9 => h9) rfl dX0_hoursLogged_12 ?_
      refine lv_icmp_ge (tgt := 76) hx hb dX0_hoursLogged_15 (by decide) (fun c_15 => ?_) (fun c_15 => ?_)
      · rw [if_pos c_15] at hrun
        refine lv_iload hx hb dX0_hoursLogged_76 (lv_at hl 4 rfl) ?_
        have hrun := Option.some.inj hrun
        subst hrun
        rw [hQ]
        exact W.iret (v := x4_6) hx hb hr (fun t ht hW => ⟨⟨x4_6, (), rfl, rfl, by rw [ht]; exact hP, hD⟩, hS.F ht⟩) hS.2.2 dX0_hoursLogged_78
      · rw [if_neg c_15] at hrun
        refine lv_aload_n hx hb dX0_hoursLogged_18 rfl (lv_at hl 0 rfl) ?_
        refine va_get (D := (dC, dI)) (ci := 0) (v := .ref p_log) (C := RX0) (T := TX0) (N := 4) hx hb hts iwX0 hown hK hP 0 rfl rfl 2 (by decide) (hts (.fieldLink RX0 23 "SkyListeners$Now" "log" "LSkyListeners$Rows;") (by decide +kernel)) (fun _ h9 => h9) rfl dX0_hoursLogged_19 ?_
        refine lv_iload hx hb dX0_hoursLogged_22 (lv_at hl 5 rfl) ?_
        refine lv_iconst (v := 0) hx hb dX0_hoursLogged_24 (by decide) ?_
        have hPc : va_P (dC, dI) vwCl [(p_log, .inr (2, [.int d_log_most, .ref p_log_cells, .int d_log_many])), (p_log_cells, .inl (cI, 48, .inl d_log_cells))] H := hP.sub [1, 2] rfl
        have hDc : va_D A [(p_log, .inr (2, [.int d_log_most, .ref p_log_cells, .int d_log_many])), (p_log_cells, .inl (cI, 48, .inl d_log_cells))] := hD.sub [1, 2] (by decide) rfl
        have hFc := va_free (wc := [(p_log, .inr (2, [.int d_log_most, .ref p_log_cells, .int d_log_many])), (p_log_cells, .inl (cI, 48, .inl d_log_cells))]) hD hS hA [1, 2] rfl
        refine va_calli (va_runV (As := [.int x5_6, .int 0]) (rest := []) ⟨hx, hb, hml, hown, hts⟩ (c_X2_number l dC dI cI cZ H.size p_log_cells p_log d_log_most d_log_many d_log_cells x5_6 0 (f_X2_number d_log_many d_log_cells x5_6 0) rfl) (cwV 2 hts gX0_hoursLogged_X2_number rfl rfl rfl (by decide +kernel) ⟨Nat.le_of_ble_eq_true rfl, Nat.le_of_ble_eq_true rfl⟩) ⟨fun a U g mk q => ⟨q.1, PC.mv q.2⟩, va_recv hK hP (ci := 2) (q0 := 1) rfl rfl, fun U hU hW => ⟨rfl, PC.of hU hW hPc hK hDc hN⟩⟩ rfl rfl hl.1 rfl (lv_room (Nat.le_of_ble_eq_true rfl)) dX0_hoursLogged_25 ⟨Nat.zero_le _, Nat.zero_le _⟩) hS (fun q _ h => hFc q h) hFc (fun r_25 u t H1 locs ht hvm hw hB hz1 hk1 hS => ?_)
        obtain ⟨hP1, hD1⟩ := hB
        try dsimp only at hw
        rw [hw]
        rw [ht] at hP1
        have hP : va_P (dC, dI) vwCl [(p_this, .inr (0, [.ref p_mounts, .ref p_lendings, .ref p_log, .ref p_undos])), (p_log, .inr (2, [.int d_log_most, .ref p_log_cells, .int d_log_many])), (p_log_cells, .inl (cI, 48, .inl d_log_cells)), (p_mounts, .inr (2, [.int d_mounts_most, .ref p_mounts_cells, .int d_mounts_many])), (p_mounts_cells, .inl (cI, 48, .inl d_mounts_cells))] H1 := join_ro hP hD [1, 2] rfl hk1 hP1
        clear hPc hDc hFc hk1 hz1 hP1 hD1 ht hvm
        generalize H1 = H at hP hS ⊢
        refine lv_istore (lv' := [(6, .int (f_X2_number d_log_many d_log_cells x5_6 0)), (0, .ref p_this), (1, .int x1), (2, .int x2), (3, .int x3), (4, .int x4_6), (5, .int x5_6)]) hx hb dX0_hoursLogged_28 hl (by decide) rfl (fun ls hl => ?_)
        refine lv_aload_n hx hb dX0_hoursLogged_30 rfl (lv_at hl 1 rfl) ?_
        refine lv_iload hx hb dX0_hoursLogged_31 (lv_at hl 6 rfl) ?_
        refine lv_iload_n hx hb dX0_hoursLogged_33 rfl (lv_at hl 2 rfl) ?_
        refine lv_iload_n hx hb dX0_hoursLogged_34 rfl (lv_at hl 4 rfl) ?_
        have hPc : va_P (dC, dI) vwCl [(p_this, .inr (0, [.ref p_mounts, .ref p_lendings, .ref p_log, .ref p_undos])), (p_log, .inr (2, [.int d_log_most, .ref p_log_cells, .int d_log_many])), (p_log_cells, .inl (cI, 48, .inl d_log_cells))] H := hP.sub [0, 1, 2] rfl
        have hDc : va_D A [(p_this, .inr (0, [.ref p_mounts, .ref p_lendings, .ref p_log, .ref p_undos])), (p_log, .inr (2, [.int d_log_most, .ref p_log_cells, .int d_log_many])), (p_log_cells, .inl (cI, 48, .inl d_log_cells))] := hD.sub [0, 1, 2] (by decide) rfl
        have hFc := va_free (wc := [(p_this, .inr (0, [.ref p_mounts, .ref p_lendings, .ref p_log, .ref p_undos])), (p_log, .inr (2, [.int d_log_most, .ref p_log_cells, .int d_log_many])), (p_log_cells, .inl (cI, 48, .inl d_log_cells))]) hD hS hA [0, 1, 2] rfl
        refine va_calli (va_runV (As := [.int x5_6, .int x1, .int x3]) (rest := []) ⟨hx, hb, hml, hown, hts⟩ (c_X0_isLogged l dC dI cI cZ H.size p_lendings p_log p_log_cells p_mounts p_this p_undos d_log_most d_log_many d_log_cells x5_6 x1 x3 (f_X0_isLogged d_log_many d_log_cells x5_6 x1 x3) rfl) (cwV 3 hts gX0_hoursLogged_X0_isLogged rfl rfl rfl (by decide +kernel) ⟨Nat.le_of_ble_eq_true rfl, Nat.le_of_ble_eq_true rfl⟩) ⟨fun a U g mk q => ⟨q.1, PC.mv q.2⟩, va_recv hK hP (ci := 0) (q0 := 0) rfl rfl, fun U hU hW => ⟨rfl, PC.of hU hW hPc hK hDc hN⟩⟩ rfl rfl hl.1 rfl (lv_room (Nat.le_of_ble_eq_true rfl)) dX0_hoursLogged_35 ⟨Nat.zero_le _, Nat.zero_le _⟩) hS (fun q _ h => hFc q h) hFc (fun r_35 u t H1 locs ht hvm hw hB hz1 hk1 hS => ?_)
        obtain ⟨hP1, hD1⟩ := hB
        try dsimp only at hw
        rw [hw]
        rw [ht] at hP1
        have hP : va_P (dC, dI) vwCl [(p_this, .inr (0, [.ref p_mounts, .ref p_lendings, .ref p_log, .ref p_undos])), (p_log, .inr (2, [.int d_log_most, .ref p_log_cells, .int d_log_many])), (p_log_cells, .inl (cI, 48, .inl d_log_cells)), (p_mounts, .inr (2, [.int d_mounts_most, .ref p_mounts_cells, .int d_mounts_many])), (p_mounts_cells, .inl (cI, 48, .inl d_mounts_cells))] H1 := join_ro hP hD [0, 1, 2] rfl hk1 hP1
        clear hPc hDc hFc hk1 hz1 hP1 hD1 ht hvm
        generalize H1 = H at hP hS ⊢
        have J70 : ∀ (x4_70 : Int32) (H : Heap) (locs : List Loc), va_P (dC, dI) vwCl [(p_this, .inr (0, [.ref p_mounts, .ref p_lendings, .ref p_log, .ref p_undos])), (p_log, .inr (2, [.int d_log_most, .ref p_log_cells, .int d_log_many])), (p_log_cells, .inl (cI, 48, .inl d_log_cells)), (p_mounts, .inr (2, [.int d_mounts_most, .ref p_mounts_cells, .int d_mounts_many])), (p_mounts_cells, .inl (cI, 48, .inl d_mounts_cells))] H → va_D A [(p_this, .inr (0, [.ref p_mounts, .ref p_lendings, .ref p_log, .ref p_undos])), (p_log, .inr (2, [.int d_log_most, .ref p_log_cells, .int d_log_many])), (p_log_cells, .inl (cI, 48, .inl d_log_cells)), (p_mounts, .inr (2, [.int d_mounts_most, .ref p_mounts_cells, .int d_mounts_many])), (p_mounts_cells, .inl (cI, 48, .inl d_mounts_cells))] → va_S A s.heap H locs → ∀ ls : Array Slot, lv_has ls 7 [(0, .ref p_this), (1, .int x1), (2, .int x2), (3, .int x3), (4, .int x4_70), (5, .int x5_6)] → f_X0_hoursLogged_J70 (f_X0_hoursLogged_L6 x1 x2 x3 d_log_many d_log_cells d_mounts_many d_mounts_cells n9_6) x1 x2 x3 x5_6 d_log_many d_log_cells d_mounts_many d_mounts_cells x4_70 = some out → W p l e ({ frames := 3, cells := 0, slots := 0, locals := 67 } : Room) s m ([.ref p_this, .int x1, .int x2, .int x3] : List Value).toArray below meth c H locs 0 0 Q (F0 m 70 ls []) := by
          intro x4_70 H locs hP hD hS ls hl hrun
          rw [f_X0_hoursLogged_J70] at hrun
          refine lv_iinc (v := x5_6 + 1) (lv' := [(5, .int (x5_6 + 1)), (0, .ref p_this), (1, .int x1), (2, .int x2), (3, .int x3), (4, .int x4_70)]) hx hb dX0_hoursLogged_70 hl (k := 5) rfl rfl (by decide) rfl (fun ls hl => ?_)
          refine lv_goto (tgt := 6) hx hb dX0_hoursLogged_73 (by decide) ?_
          exact ih6 x4_70 (x5_6 + 1) H locs hP hD hS ls (lv_sub hl [1, 2, 3, 4, 5, 0] rfl) hrun
        refine lv_if_eq (tgt := 70) hx hb dX0_hoursLogged_38 (by decide) (fun c_38 => ?_) (fun c_38 => ?_)
        · rw [if_pos c_38] at hrun
          exact J70 x4_6 H locs hP hD hS ls (lv_sub hl [1, 2, 3, 4, 5, 6] rfl) hrun
        · rw [if_neg c_38] at hrun
          refine lv_aload_n hx hb dX0_hoursLogged_41 rfl (lv_at hl 1 rfl) ?_
          refine lv_aload_n hx hb dX0_hoursLogged_42 rfl (lv_at hl 1 rfl) ?_
          refine va_get (D := (dC, dI)) (ci := 0) (v := .ref p_log) (C := RX0) (T := TX0) (N := 4) hx hb hts iwX0 hown hK hP 0 rfl rfl 2 (by decide) (hts (.fieldLink RX0 23 "SkyListeners$Now" "log" "LSkyListeners$Rows;") (by decide +kernel)) (fun _ h9 => h9) rfl dX0_hoursLogged_43 ?_
          refine lv_iload hx hb dX0_hoursLogged_46 (lv_at hl 6 rfl) ?_
          refine lv_iconst (v := 1) hx hb dX0_hoursLogged_48 (by decide) ?_
          have hPc : va_P (dC, dI) vwCl [(p_log, .inr (2, [.int d_log_most, .ref p_log_cells, .int d_log_many])), (p_log_cells, .inl (cI, 48, .inl d_log_cells))] H := hP.sub [1, 2] rfl
          have hDc : va_D A [(p_log, .inr (2, [.int d_log_most, .ref p_log_cells, .int d_log_many])), (p_log_cells, .inl (cI, 48, .inl d_log_cells))] := hD.sub [1, 2] (by decide) rfl
          have hFc := va_free (wc := [(p_log, .inr (2, [.int d_log_most, .ref p_log_cells, .int d_log_many])), (p_log_cells, .inl (cI, 48, .inl d_log_cells))]) hD hS hA [1, 2] rfl
          refine va_calli (va_runV (As := [.int x5_6, .int 1]) (rest := [.ref p_this]) ⟨hx, hb, hml, hown, hts⟩ (c_X2_number l dC dI cI cZ H.size p_log_cells p_log d_log_most d_log_many d_log_cells x5_6 1 (f_X2_number d_log_many d_log_cells x5_6 1) rfl) (cwV 2 hts gX0_hoursLogged_X2_number rfl rfl rfl (by decide +kernel) ⟨Nat.le_of_ble_eq_true rfl, Nat.le_of_ble_eq_true rfl⟩) ⟨fun a U g mk q => ⟨q.1, PC.mv q.2⟩, va_recv hK hP (ci := 2) (q0 := 1) rfl rfl, fun U hU hW => ⟨rfl, PC.of hU hW hPc hK hDc hN⟩⟩ rfl rfl hl.1 rfl (lv_room (Nat.le_of_ble_eq_true rfl)) dX0_hoursLogged_49 ⟨Nat.zero_le _, Nat.zero_le _⟩) hS (fun q _ h => hFc q h) hFc (fun r_49 u t H1 locs ht hvm hw hB hz1 hk1 hS => ?_)
          obtain ⟨hP1, hD1⟩ := hB
          try dsimp only at hw
          rw [hw]
          rw [ht] at hP1
          have hP : va_P (dC, dI) vwCl [(p_this, .inr (0, [.ref p_mounts, .ref p_lendings, .ref p_log, .ref p_undos])), (p_log, .inr (2, [.int d_log_most, .ref p_log_cells, .int d_log_many])), (p_log_cells, .inl (cI, 48, .inl d_log_cells)), (p_mounts, .inr (2, [.int d_mounts_most, .ref p_mounts_cells, .int d_mounts_many])), (p_mounts_cells, .inl (cI, 48, .inl d_mounts_cells))] H1 := join_ro hP hD [1, 2] rfl hk1 hP1
          clear hPc hDc hFc hk1 hz1 hP1 hD1 ht hvm
          generalize H1 = H at hP hS ⊢
          refine lv_iload hx hb dX0_hoursLogged_52 (lv_at hl 0 rfl) ?_
          have hPc : va_P (dC, dI) vwCl [(p_this, .inr (0, [.ref p_mounts, .ref p_lendings, .ref p_log, .ref p_undos])), (p_mounts, .inr (2, [.int d_mounts_most, .ref p_mounts_cells, .int d_mounts_many])), (p_mounts_cells, .inl (cI, 48, .inl d_mounts_cells))] H := hP.sub [0, 3, 4] rfl
          have hDc : va_D A [(p_this, .inr (0, [.ref p_mounts, .ref p_lendings, .ref p_log, .ref p_undos])), (p_mounts, .inr (2, [.int d_mounts_most, .ref p_mounts_cells, .int d_mounts_many])), (p_mounts_cells, .inl (cI, 48, .inl d_mounts_cells))] := hD.sub [0, 3, 4] (by decide) rfl
          have hFc := va_free (wc := [(p_this, .inr (0, [.ref p_mounts, .ref p_lendings, .ref p_log, .ref p_undos])), (p_mounts, .inr (2, [.int d_mounts_most, .ref p_mounts_cells, .int d_mounts_many])), (p_mounts_cells, .inl (cI, 48, .inl d_mounts_cells))]) hD hS hA [0, 3, 4] rfl
          refine va_calli (va_runV (As := [.int (f_X2_number d_log_many d_log_cells x5_6 1), .int (f_X2_number d_log_many d_log_cells x5_6 0)]) (rest := []) ⟨hx, hb, hml, hown, hts⟩ (c_X0_placeSeen l dC dI cI cZ H.size p_lendings p_log p_mounts p_mounts_cells p_this p_undos d_mounts_most d_mounts_many d_mounts_cells (f_X2_number d_log_many d_log_cells x5_6 1) (f_X2_number d_log_many d_log_cells x5_6 0) (f_X0_placeSeen d_mounts_many d_mounts_cells (f_X2_number d_log_many d_log_cells x5_6 1) (f_X2_number d_log_many d_log_cells x5_6 0)) rfl) (cwV 2 hts gX0_hoursLogged_X0_placeSeen rfl rfl rfl (by decide +kernel) ⟨Nat.le_of_ble_eq_true rfl, Nat.le_of_ble_eq_true rfl⟩) ⟨fun a U g mk q => ⟨q.1, PC.mv q.2⟩, va_recv hK hP (ci := 0) (q0 := 0) rfl rfl, fun U hU hW => ⟨rfl, PC.of hU hW hPc hK hDc hN⟩⟩ rfl rfl hl.1 rfl (lv_room (Nat.le_of_ble_eq_true rfl)) dX0_hoursLogged_54 ⟨Nat.zero_le _, Nat.zero_le _⟩) hS (fun q _ h => hFc q h) hFc (fun r_54 u t H1 locs ht hvm hw hB hz1 hk1 hS => ?_)
          obtain ⟨hP1, hD1⟩ := hB
          try dsimp only at hw
          rw [hw]
          rw [ht] at hP1
          have hP : va_P (dC, dI) vwCl [(p_this, .inr (0, [.ref p_mounts, .ref p_lendings, .ref p_log, .ref p_undos])), (p_log, .inr (2, [.int d_log_most, .ref p_log_cells, .int d_log_many])), (p_log_cells, .inl (cI, 48, .inl d_log_cells)), (p_mounts, .inr (2, [.int d_mounts_most, .ref p_mounts_cells, .int d_mounts_many])), (p_mounts_cells, .inl (cI, 48, .inl d_mounts_cells))] H1 := join_ro hP hD [0, 3, 4] rfl hk1 hP1
          clear hPc hDc hFc hk1 hz1 hP1 hD1 ht hvm
          generalize H1 = H at hP hS ⊢
          refine lv_iload_n hx hb dX0_hoursLogged_57 rfl (lv_at hl 3 rfl) ?_
          refine lv_icmp_ne (tgt := 70) hx hb dX0_hoursLogged_58 (by decide) (fun c_58 => ?_) (fun c_58 => ?_)
          · rw [if_neg c_58] at hrun
            exact J70 x4_6 H locs hP hD hS ls (lv_sub hl [1, 2, 3, 4, 5, 6] rfl) hrun
          · rw [if_pos c_58] at hrun
            refine lv_iload hx hb dX0_hoursLogged_61 (lv_at hl 5 rfl) ?_
            refine lv_iconst (v := 1) hx hb dX0_hoursLogged_63 (by decide) ?_
            refine lv_iload hx hb dX0_hoursLogged_64 (lv_at hl 0 rfl) ?_
            refine lv_ishl hx hb dX0_hoursLogged_66 ?_
            refine lv_ior hx hb dX0_hoursLogged_67 ?_
            refine lv_istore (lv' := [(4, .int (x4_6 ||| (1 <<< ((f_X2_number d_log_many d_log_cells x5_6 0) &&& 31)))), (6, .int (f_X2_number d_log_many d_log_cells x5_6 0)), (0, .ref p_this), (1, .int x1), (2, .int x2), (3, .int x3), (5, .int x5_6)]) hx hb dX0_hoursLogged_68 hl (by decide) rfl (fun ls hl => ?_)
            exact J70 (x4_6 ||| (1 <<< ((f_X2_number d_log_many d_log_cells x5_6 0) &&& 31))) H locs hP hD hS ls (lv_sub hl [2, 3, 4, 5, 0, 6] rfl) hrun
  exact L6 FU 0 0 H locs hP hD hS ls (lv_sub hl [2, 3, 4, 5, 1, 0] rfl) hrun
-- SkyListeners$Now.fitsLaw
def f_X0_fitsLaw_J46 (K3 : Int32 → Option (Int32)) (x1 : Int32) (x2 : Int32) (x3 : Int32) (x4 : Int32) (t1 : Int32) (t2 : Int32) (d_log_many : Int32) (d_log_cells : Nat → Int32) (t3 : Int32) : Option (Int32) := (if (f_X0_isLogged d_log_many d_log_cells t1 t2 t3) = 0 then (K3 (x4 + 1)) else (some 0))
def f_X0_fitsLaw_L3 (x1 : Int32) (x2 : Int32) (x3 : Int32) (d_log_many : Int32) (d_log_cells : Nat → Int32) : Nat → Int32 → Option (Int32)
  | 0, _ => none
  | n9 + 1, x4 => (if d_log_many ≤ x4 then (some 1) else (if (f_X4_isLawful (f_X2_number d_log_many d_log_cells x4 0) x2 x3) = 0 then (f_X0_fitsLaw_J46 (f_X0_fitsLaw_L3  x1 x2 x3 d_log_many d_log_cells n9) x1 x2 x3 x4 x4 x1 d_log_many d_log_cells 1) else (f_X0_fitsLaw_J46 (f_X0_fitsLaw_L3  x1 x2 x3 d_log_many d_log_cells n9) x1 x2 x3 x4 x4 x1 d_log_many d_log_cells 0)))
def f_X0_fitsLaw (d_log_many : Int32) (d_log_cells : Nat → Int32) (x1 : Int32) (x2 : Int32) (x3 : Int32) : Option (Int32) := (f_X0_fitsLaw_L3 x1 x2 x3 d_log_many d_log_cells FU 0)
set_option maxHeartbeats 4000000 in
set_option maxRecDepth 100000 in
theorem c_X0_fitsLaw (l : Launch) (dC : Nat → ClassId) (dI : Nat → Nat → Nat) (cI cZ : ClassId) (sz : Nat) (p_lendings p_log p_log_cells p_mounts p_this p_undos : Nat) (d_log_most : Int32) (d_log_many : Int32) (d_log_cells : Nat → Int32) (x1 : Int32) (x2 : Int32) (x3 : Int32) (out : Int32) (hrun : f_X0_fitsLaw d_log_many d_log_cells x1 x2 x3 = some out) : Met l yX0_fitsLaw wsX0_fitsLaw ({ frames := 3, cells := 0, slots := 0, locals := 67 } : Room) (va_Pc [.ref p_this, .int x1, .int x2, .int x3] (PC dC dI cI cZ sz ([(p_this, .inr (0, [.ref p_mounts, .ref p_lendings, .ref p_log, .ref p_undos])), (p_log, .inr (2, [.int d_log_most, .ref p_log_cells, .int d_log_many])), (p_log_cells, .inl (cI, 48, .inl d_log_cells))] : va_W))) (va_Qi (fun r (_ : Unit) => r = out) (fun _ t => va_P (dC, dI) vwCl [(p_this, .inr (0, [.ref p_mounts, .ref p_lendings, .ref p_log, .ref p_undos])), (p_log, .inr (2, [.int d_log_most, .ref p_log_cells, .int d_log_many])), (p_log_cells, .inl (cI, 48, .inl d_log_cells))] t.heap ∧ va_D (va_A ([(p_this, .inr (0, [.ref p_mounts, .ref p_lendings, .ref p_log, .ref p_undos])), (p_log, .inr (2, [.int d_log_most, .ref p_log_cells, .int d_log_many])), (p_log_cells, .inl (cI, 48, .inl d_log_cells))] : va_W) sz) [(p_this, .inr (0, [.ref p_mounts, .ref p_lendings, .ref p_log, .ref p_undos])), (p_log, .inr (2, [.int d_log_most, .ref p_log_cells, .int d_log_many])), (p_log_cells, .inl (cI, 48, .inl d_log_cells))]) (va_A ([(p_this, .inr (0, [.ref p_mounts, .ref p_lendings, .ref p_log, .ref p_undos])), (p_log, .inr (2, [.int d_log_most, .ref p_log_cells, .int d_log_many])), (p_log_cells, .inl (cI, 48, .inl d_log_cells))] : va_W) sz)) 0 0 (va_A ([(p_this, .inr (0, [.ref p_mounts, .ref p_lendings, .ref p_log, .ref p_undos])), (p_log, .inr (2, [.int d_log_most, .ref p_log_cells, .int d_log_many])), (p_log_cells, .inl (cI, 48, .inl d_log_cells))] : va_W) sz) := by
  refine Met.ofW (cc := cX0_fitsLaw) (maxL := 6) (ret := (some .boolean)) (by decide) rfl ?_
  intro p e s m args below meth c s₁ B hml hv
  obtain ⟨rfl, hsz, hP, hK, hD0, hN⟩ := hv
  have hx := B.exec
  have hb := B.bytes
  have hr := B.returns
  have hts := atoms_spec (ws := wsX0_fitsLaw) B.pre
  have hown : s.vm.findClass RX0 = some m.cls := findClass_of_methodNamed B.named
  have hlocks := B.notSynchronized
  subst hsz
  have hD := hD0.self (sz := s.heap.size)
  generalize hAe : va_A ([(p_this, .inr (0, [.ref p_mounts, .ref p_lendings, .ref p_log, .ref p_undos])), (p_log, .inr (2, [.int d_log_most, .ref p_log_cells, .int d_log_many])), (p_log_cells, .inl (cI, 48, .inl d_log_cells))] : va_W) s.heap.size = A at hD ⊢
  have hA : ∀ q : Nat, s.heap.size ≤ q → A q := fun q h => by rw [← hAe]; exact Or.inr h
  have hS : va_S A s.heap s.heap [] := va_S.rf
  refine W_abs (fun Q hQ => ?_)
  have hl := lv_entry ([.ref p_this, .int x1, .int x2, .int x3]) (n := 6) (Nat.le_of_ble_eq_true rfl)
  rw [lg_entry_eq]
  generalize (lg_sl ([.ref p_this, .int x1, .int x2, .int x3]) ++ List.replicate (6 - (lg_sl ([.ref p_this, .int x1, .int x2, .int x3])).length) Slot.unset).toArray = ls at hl ⊢
  have hl : lv_has ls 6 [(0, .ref p_this), (1, .int x1), (2, .int x2), (3, .int x3)] := hl
  rw [f_X0_fitsLaw] at hrun
  refine W_start (ws := [(p_this, .inr (0, [.ref p_mounts, .ref p_lendings, .ref p_log, .ref p_undos])), (p_log, .inr (2, [.int d_log_most, .ref p_log_cells, .int d_log_many])), (p_log_cells, .inl (cI, 48, .inl d_log_cells))]) hP hS (fun H locs hP hS => ?_)
  have iwX0 : ∀ w ∈ wsX00, w ∈ wsX0_fitsLaw := by decide +kernel
  have iwX2 : ∀ w ∈ wsX20, w ∈ wsX0_fitsLaw := by decide +kernel
  refine lv_iconst (v := 0) hx hb dX0_fitsLaw_0 (by decide) ?_
  refine lv_istore (lv' := [(4, .int 0), (0, .ref p_this), (1, .int x1), (2, .int x2), (3, .int x3)]) hx hb dX0_fitsLaw_1 hl (by decide) rfl (fun ls hl => ?_)
  have L3 : ∀ (n9_3 : Nat) (x4_3 : Int32) (H : Heap) (locs : List Loc), va_P (dC, dI) vwCl [(p_this, .inr (0, [.ref p_mounts, .ref p_lendings, .ref p_log, .ref p_undos])), (p_log, .inr (2, [.int d_log_most, .ref p_log_cells, .int d_log_many])), (p_log_cells, .inl (cI, 48, .inl d_log_cells))] H → va_D A [(p_this, .inr (0, [.ref p_mounts, .ref p_lendings, .ref p_log, .ref p_undos])), (p_log, .inr (2, [.int d_log_most, .ref p_log_cells, .int d_log_many])), (p_log_cells, .inl (cI, 48, .inl d_log_cells))] → va_S A s.heap H locs → ∀ ls : Array Slot, lv_has ls 6 [(0, .ref p_this), (1, .int x1), (2, .int x2), (3, .int x3), (4, .int x4_3)] → f_X0_fitsLaw_L3 x1 x2 x3 d_log_many d_log_cells n9_3 x4_3 = some out → W p l e ({ frames := 3, cells := 0, slots := 0, locals := 67 } : Room) s m ([.ref p_this, .int x1, .int x2, .int x3] : List Value).toArray below meth c H locs 0 0 Q (F0 m 3 ls []) := by
    intro n9_3
    induction n9_3 with
    | zero =>
      intro x4_3 H locs hP hD hS ls hl hrun
      rw [f_X0_fitsLaw_L3] at hrun
      cases hrun
    | succ n9_3 ih3 =>
      intro x4_3 H locs hP hD hS ls hl hrun
      rw [f_X0_fitsLaw_L3] at hrun
      refine lv_iload hx hb dX0_fitsLaw_3 (lv_at hl 4 rfl) ?_
      refine lv_aload_n hx hb dX0_fitsLaw_5 rfl (lv_at hl 0 rfl) ?_
      refine va_get (D := (dC, dI)) (ci := 0) (v := .ref p_log) (C := RX0) (T := TX0) (N := 4) hx hb hts iwX0 hown hK hP 0 rfl rfl 2 (by decide) (hts (.fieldLink RX0 23 "SkyListeners$Now" "log" "LSkyListeners$Rows;") (by decide +kernel)) (fun _ h9 => h9) rfl dX0_fitsLaw_6 ?_
      refine va_get (D := (dC, dI)) (ci := 2) (v := .int d_log_many) (C := RX2) (T := TX2) (N := 3) hx hb hts iwX2 hown hK hP 1 rfl rfl 2 (by decide) (hts (.fieldLink RX0 64 "SkyListeners$Rows" "many" "I") (by decide +kernel)) (fun _ h9 => h9) rfl dX0_fitsLaw_9 ?_
      refine lv_icmp_ge (tgt := 60) hx hb dX0_fitsLaw_12 (by decide) (fun c_12 => ?_) (fun c_12 => ?_)
      · rw [if_pos c_12] at hrun
        refine lv_iconst (v := 1) hx hb dX0_fitsLaw_60 (by decide) ?_
        have hrun := Option.some.inj hrun
        subst hrun
        rw [hQ]
        exact W.zret (v := 1) (ty := .boolean) hx hb hr rfl (fun t ht hW => ⟨⟨1, (), rfl, rfl, by rw [ht]; exact hP, hD⟩, hS.F ht⟩) hS.2.2 dX0_fitsLaw_61
      · rw [if_neg c_12] at hrun
        refine lv_aload_n hx hb dX0_fitsLaw_15 rfl (lv_at hl 0 rfl) ?_
        refine va_get (D := (dC, dI)) (ci := 0) (v := .ref p_log) (C := RX0) (T := TX0) (N := 4) hx hb hts iwX0 hown hK hP 0 rfl rfl 2 (by decide) (hts (.fieldLink RX0 23 "SkyListeners$Now" "log" "LSkyListeners$Rows;") (by decide +kernel)) (fun _ h9 => h9) rfl dX0_fitsLaw_16 ?_
        refine lv_iload hx hb dX0_fitsLaw_19 (lv_at hl 4 rfl) ?_
        refine lv_iconst (v := 0) hx hb dX0_fitsLaw_21 (by decide) ?_
        have hPc : va_P (dC, dI) vwCl [(p_log, .inr (2, [.int d_log_most, .ref p_log_cells, .int d_log_many])), (p_log_cells, .inl (cI, 48, .inl d_log_cells))] H := hP.sub [1, 2] rfl
        have hDc : va_D A [(p_log, .inr (2, [.int d_log_most, .ref p_log_cells, .int d_log_many])), (p_log_cells, .inl (cI, 48, .inl d_log_cells))] := hD.sub [1, 2] (by decide) rfl
        have hFc := va_free (wc := [(p_log, .inr (2, [.int d_log_most, .ref p_log_cells, .int d_log_many])), (p_log_cells, .inl (cI, 48, .inl d_log_cells))]) hD hS hA [1, 2] rfl
        refine va_calli (va_runV (As := [.int x4_3, .int 0]) (rest := []) ⟨hx, hb, hml, hown, hts⟩ (c_X2_number l dC dI cI cZ H.size p_log_cells p_log d_log_most d_log_many d_log_cells x4_3 0 (f_X2_number d_log_many d_log_cells x4_3 0) rfl) (cwV 2 hts gX0_fitsLaw_X2_number rfl rfl rfl (by decide +kernel) ⟨Nat.le_of_ble_eq_true rfl, Nat.le_of_ble_eq_true rfl⟩) ⟨fun a U g mk q => ⟨q.1, PC.mv q.2⟩, va_recv hK hP (ci := 2) (q0 := 1) rfl rfl, fun U hU hW => ⟨rfl, PC.of hU hW hPc hK hDc hN⟩⟩ rfl rfl hl.1 rfl (lv_room (Nat.le_of_ble_eq_true rfl)) dX0_fitsLaw_22 ⟨Nat.zero_le _, Nat.zero_le _⟩) hS (fun q _ h => hFc q h) hFc (fun r_22 u t H1 locs ht hvm hw hB hz1 hk1 hS => ?_)
        obtain ⟨hP1, hD1⟩ := hB
        try dsimp only at hw
        rw [hw]
        rw [ht] at hP1
        have hP : va_P (dC, dI) vwCl [(p_this, .inr (0, [.ref p_mounts, .ref p_lendings, .ref p_log, .ref p_undos])), (p_log, .inr (2, [.int d_log_most, .ref p_log_cells, .int d_log_many])), (p_log_cells, .inl (cI, 48, .inl d_log_cells))] H1 := join_ro hP hD [1, 2] rfl hk1 hP1
        clear hPc hDc hFc hk1 hz1 hP1 hD1 ht hvm
        generalize H1 = H at hP hS ⊢
        refine lv_iload_n hx hb dX0_fitsLaw_25 rfl (lv_at hl 2 rfl) ?_
        refine lv_iload_n hx hb dX0_fitsLaw_26 rfl (lv_at hl 3 rfl) ?_
        have hPc : va_P (dC, dI) vwCl [] H := hP.sub [] rfl
        have hDc : va_D A [] := hD.sub [] (by decide) rfl
        have hFc := va_free (wc := []) hD hS hA [] rfl
        refine va_calli (va_runS (As := [.int (f_X2_number d_log_many d_log_cells x4_3 0), .int x2, .int x3]) (rest := []) ⟨hx, hb, hml, hown, hts⟩ (c_X4_isLawful l dC dI cI cZ H.size (f_X2_number d_log_many d_log_cells x4_3 0) x2 x3 (f_X4_isLawful (f_X2_number d_log_many d_log_cells x4_3 0) x2 x3) rfl) (va_cwS 3 hts gX0_fitsLaw_X4_isLawful rfl rfl rfl (by decide +kernel) ⟨Nat.le_of_ble_eq_true rfl, Nat.le_of_ble_eq_true rfl⟩) ⟨fun a U g mk q => ⟨q.1, PC.mv q.2⟩, fun U hU hW => ⟨rfl, PC.of hU hW hPc hK hDc hN⟩⟩ rfl rfl hl.1 rfl (lv_room (Nat.le_of_ble_eq_true rfl)) dX0_fitsLaw_27 ⟨Nat.zero_le _, Nat.zero_le _⟩) hS (fun q _ h => hFc q h) hFc (fun r_27 u t H1 locs ht hvm hw hB hz1 hk1 hS => ?_)
        obtain ⟨hP1, hD1⟩ := hB
        try dsimp only at hw
        rw [hw]
        rw [ht] at hP1
        have hP : va_P (dC, dI) vwCl [(p_this, .inr (0, [.ref p_mounts, .ref p_lendings, .ref p_log, .ref p_undos])), (p_log, .inr (2, [.int d_log_most, .ref p_log_cells, .int d_log_many])), (p_log_cells, .inl (cI, 48, .inl d_log_cells))] H1 := join_ro hP hD [] rfl hk1 hP1
        clear hPc hDc hFc hk1 hz1 hP1 hD1 ht hvm
        generalize H1 = H at hP hS ⊢
        refine lv_istore (lv' := [(5, .int (f_X4_isLawful (f_X2_number d_log_many d_log_cells x4_3 0) x2 x3)), (0, .ref p_this), (1, .int x1), (2, .int x2), (3, .int x3), (4, .int x4_3)]) hx hb dX0_fitsLaw_30 hl (by decide) rfl (fun ls hl => ?_)
        refine lv_aload_n hx hb dX0_fitsLaw_32 rfl (lv_at hl 1 rfl) ?_
        refine lv_iload hx hb dX0_fitsLaw_33 (lv_at hl 5 rfl) ?_
        refine lv_iload_n hx hb dX0_fitsLaw_35 rfl (lv_at hl 2 rfl) ?_
        refine lv_iload hx hb dX0_fitsLaw_36 (lv_at hl 0 rfl) ?_
        have J46 : ∀ (t3_46 : Int32) (H : Heap) (locs : List Loc), va_P (dC, dI) vwCl [(p_this, .inr (0, [.ref p_mounts, .ref p_lendings, .ref p_log, .ref p_undos])), (p_log, .inr (2, [.int d_log_most, .ref p_log_cells, .int d_log_many])), (p_log_cells, .inl (cI, 48, .inl d_log_cells))] H → va_D A [(p_this, .inr (0, [.ref p_mounts, .ref p_lendings, .ref p_log, .ref p_undos])), (p_log, .inr (2, [.int d_log_most, .ref p_log_cells, .int d_log_many])), (p_log_cells, .inl (cI, 48, .inl d_log_cells))] → va_S A s.heap H locs → ∀ ls : Array Slot, lv_has ls 6 [(0, .ref p_this), (1, .int x1), (2, .int x2), (3, .int x3), (4, .int x4_3)] → f_X0_fitsLaw_J46 (f_X0_fitsLaw_L3 x1 x2 x3 d_log_many d_log_cells n9_3) x1 x2 x3 x4_3 x4_3 x1 d_log_many d_log_cells t3_46 = some out → W p l e ({ frames := 3, cells := 0, slots := 0, locals := 67 } : Room) s m ([.ref p_this, .int x1, .int x2, .int x3] : List Value).toArray below meth c H locs 0 0 Q (F0 m 46 ls [.int t3_46, .int x1, .int x4_3, .ref p_this]) := by
          intro t3_46 H locs hP hD hS ls hl hrun
          rw [f_X0_fitsLaw_J46] at hrun
          have hPc : va_P (dC, dI) vwCl [(p_this, .inr (0, [.ref p_mounts, .ref p_lendings, .ref p_log, .ref p_undos])), (p_log, .inr (2, [.int d_log_most, .ref p_log_cells, .int d_log_many])), (p_log_cells, .inl (cI, 48, .inl d_log_cells))] H := hP.sub [0, 1, 2] rfl
          have hDc : va_D A [(p_this, .inr (0, [.ref p_mounts, .ref p_lendings, .ref p_log, .ref p_undos])), (p_log, .inr (2, [.int d_log_most, .ref p_log_cells, .int d_log_many])), (p_log_cells, .inl (cI, 48, .inl d_log_cells))] := hD.sub [0, 1, 2] (by decide) rfl
          have hFc := va_free (wc := [(p_this, .inr (0, [.ref p_mounts, .ref p_lendings, .ref p_log, .ref p_undos])), (p_log, .inr (2, [.int d_log_most, .ref p_log_cells, .int d_log_many])), (p_log_cells, .inl (cI, 48, .inl d_log_cells))]) hD hS hA [0, 1, 2] rfl
          refine va_calli (va_runV (As := [.int x4_3, .int x1, .int t3_46]) (rest := []) ⟨hx, hb, hml, hown, hts⟩ (c_X0_isLogged l dC dI cI cZ H.size p_lendings p_log p_log_cells p_mounts p_this p_undos d_log_most d_log_many d_log_cells x4_3 x1 t3_46 (f_X0_isLogged d_log_many d_log_cells x4_3 x1 t3_46) rfl) (cwV 3 hts gX0_fitsLaw_X0_isLogged rfl rfl rfl (by decide +kernel) ⟨Nat.le_of_ble_eq_true rfl, Nat.le_of_ble_eq_true rfl⟩) ⟨fun a U g mk q => ⟨q.1, PC.mv q.2⟩, va_recv hK hP (ci := 0) (q0 := 0) rfl rfl, fun U hU hW => ⟨rfl, PC.of hU hW hPc hK hDc hN⟩⟩ rfl rfl hl.1 rfl (lv_room (Nat.le_of_ble_eq_true rfl)) dX0_fitsLaw_46 ⟨Nat.zero_le _, Nat.zero_le _⟩) hS (fun q _ h => hFc q h) hFc (fun r_46 u t H1 locs ht hvm hw hB hz1 hk1 hS => ?_)
          obtain ⟨hP1, hD1⟩ := hB
          try dsimp only at hw
          rw [hw]
          rw [ht] at hP1
          have hP : va_P (dC, dI) vwCl [(p_this, .inr (0, [.ref p_mounts, .ref p_lendings, .ref p_log, .ref p_undos])), (p_log, .inr (2, [.int d_log_most, .ref p_log_cells, .int d_log_many])), (p_log_cells, .inl (cI, 48, .inl d_log_cells))] H1 := join_ro hP hD [0, 1, 2] rfl hk1 hP1
          clear hPc hDc hFc hk1 hz1 hP1 hD1 ht hvm
          generalize H1 = H at hP hS ⊢
          refine lv_if_eq (tgt := 54) hx hb dX0_fitsLaw_49 (by decide) (fun c_49 => ?_) (fun c_49 => ?_)
          · rw [if_pos c_49] at hrun
            refine lv_iinc (v := x4_3 + 1) (lv' := [(4, .int (x4_3 + 1)), (0, .ref p_this), (1, .int x1), (2, .int x2), (3, .int x3)]) hx hb dX0_fitsLaw_54 hl (k := 4) rfl rfl (by decide) rfl (fun ls hl => ?_)
            refine lv_goto (tgt := 3) hx hb dX0_fitsLaw_57 (by decide) ?_
            exact ih3 (x4_3 + 1) H locs hP hD hS ls (lv_sub hl [1, 2, 3, 4, 0] rfl) hrun
          · rw [if_neg c_49] at hrun
            refine lv_iconst (v := 0) hx hb dX0_fitsLaw_52 (by decide) ?_
            have hrun := Option.some.inj hrun
            subst hrun
            rw [hQ]
            exact W.zret (v := 0) (ty := .boolean) hx hb hr rfl (fun t ht hW => ⟨⟨0, (), rfl, rfl, by rw [ht]; exact hP, hD⟩, hS.F ht⟩) hS.2.2 dX0_fitsLaw_53
        refine lv_if_eq (tgt := 45) hx hb dX0_fitsLaw_38 (by decide) (fun c_38 => ?_) (fun c_38 => ?_)
        · rw [if_pos c_38] at hrun
          refine lv_iconst (v := 1) hx hb dX0_fitsLaw_45 (by decide) ?_
          exact J46 1 H locs hP hD hS ls (lv_sub hl [1, 2, 3, 4, 5] rfl) hrun
        · rw [if_neg c_38] at hrun
          refine lv_iconst (v := 0) hx hb dX0_fitsLaw_41 (by decide) ?_
          refine lv_goto (tgt := 46) hx hb dX0_fitsLaw_42 (by decide) ?_
          exact J46 0 H locs hP hD hS ls (lv_sub hl [1, 2, 3, 4, 5] rfl) hrun
  exact L3 FU 0 H locs hP hD hS ls (lv_sub hl [1, 2, 3, 4, 0] rfl) hrun
-- SkyListeners$Now.spansThatFit
def f_X0_spansThatFit_X94 (K37 : Int32 → Int32 → Option (Int32)) (x4 : Int32) (x5 : Int32) (x7 : Int32) (x6 : Int32) : Option (Int32) := (K37 x6 (x7 + 1))
def f_X0_spansThatFit_J88 (K51 : Int32 → Int32 → Int32 → Option (Int32)) (x4 : Int32) (x5 : Int32) (x7 : Int32) (x8 : Int32) (x9 : Int32) (x6 : Int32) : Option (Int32) := (K51 x6 x8 (x9 + 1))
def f_X0_spansThatFit_L51 (K94 : Int32 → Option (Int32)) (x4 : Int32) (x5 : Int32) (x7 : Int32) : Nat → Int32 → Int32 → Int32 → Option (Int32)
  | 0, _, _, _ => none
  | n9 + 1, x6, x8, x9 => (if 24 ≤ x9 then (K94 x6) else (if ((x8 ||| (1 <<< (x9 &&& 31))) &&& x4) = x4 then (if ((x8 ||| (1 <<< (x9 &&& 31))) &&& x5) = 0 then (f_X0_spansThatFit_J88 (f_X0_spansThatFit_L51 K94 x4 x5 x7 n9) x4 x5 x7 (x8 ||| (1 <<< (x9 &&& 31))) x9 (x6 + 1)) else (f_X0_spansThatFit_J88 (f_X0_spansThatFit_L51 K94 x4 x5 x7 n9) x4 x5 x7 (x8 ||| (1 <<< (x9 &&& 31))) x9 x6)) else (f_X0_spansThatFit_J88 (f_X0_spansThatFit_L51 K94 x4 x5 x7 n9) x4 x5 x7 (x8 ||| (1 <<< (x9 &&& 31))) x9 x6)))
def f_X0_spansThatFit_L37 (x4 : Int32) (x5 : Int32) : Nat → Int32 → Int32 → Option (Int32)
  | 0, _, _ => none
  | n9 + 1, x6, x7 => (if 24 ≤ x7 then (some x6) else (f_X0_spansThatFit_L51 (f_X0_spansThatFit_X94 (f_X0_spansThatFit_L37  x4 x5 n9) x4 x5 x7) x4 x5 x7 FU x6 0 x7))
def f_X0_spansThatFit (d_log_many : Int32) (d_log_cells : Nat → Int32) (d_mounts_many : Int32) (d_mounts_cells : Nat → Int32) (x1 : Int32) (x2 : Int32) (x3 : Int32) : Option (Int32) := ((f_X0_isHeardElsewhere d_log_many d_log_cells d_mounts_many d_mounts_cells x1 x2).bind fun q3 => (if q3 = 0 then ((f_X0_hoursLogged d_log_many d_log_cells d_mounts_many d_mounts_cells x1 x2 1).bind fun q15 => ((f_X0_hoursLogged d_log_many d_log_cells d_mounts_many d_mounts_cells x1 x2 0).bind fun q26 => (f_X0_spansThatFit_L37 (q15 ||| x3) q26 FU 0 0))) else (some 0)))
set_option maxHeartbeats 4000000 in
set_option maxRecDepth 100000 in
theorem c_X0_spansThatFit (l : Launch) (dC : Nat → ClassId) (dI : Nat → Nat → Nat) (cI cZ : ClassId) (sz : Nat) (p_lendings p_log p_log_cells p_mounts p_mounts_cells p_this p_undos : Nat) (d_log_most : Int32) (d_log_many : Int32) (d_log_cells : Nat → Int32) (d_mounts_most : Int32) (d_mounts_many : Int32) (d_mounts_cells : Nat → Int32) (x1 : Int32) (x2 : Int32) (x3 : Int32) (out : Int32) (hrun : f_X0_spansThatFit d_log_many d_log_cells d_mounts_many d_mounts_cells x1 x2 x3 = some out) : Met l yX0_spansThatFit wsX0_spansThatFit ({ frames := 4, cells := 0, slots := 0, locals := 93 } : Room) (va_Pc [.ref p_this, .int x1, .int x2, .int x3] (PC dC dI cI cZ sz ([(p_this, .inr (0, [.ref p_mounts, .ref p_lendings, .ref p_log, .ref p_undos])), (p_log, .inr (2, [.int d_log_most, .ref p_log_cells, .int d_log_many])), (p_log_cells, .inl (cI, 48, .inl d_log_cells)), (p_mounts, .inr (2, [.int d_mounts_most, .ref p_mounts_cells, .int d_mounts_many])), (p_mounts_cells, .inl (cI, 48, .inl d_mounts_cells))] : va_W))) (va_Qi (fun r (_ : Unit) => r = out) (fun _ t => va_P (dC, dI) vwCl [(p_this, .inr (0, [.ref p_mounts, .ref p_lendings, .ref p_log, .ref p_undos])), (p_log, .inr (2, [.int d_log_most, .ref p_log_cells, .int d_log_many])), (p_log_cells, .inl (cI, 48, .inl d_log_cells)), (p_mounts, .inr (2, [.int d_mounts_most, .ref p_mounts_cells, .int d_mounts_many])), (p_mounts_cells, .inl (cI, 48, .inl d_mounts_cells))] t.heap ∧ va_D (va_A ([(p_this, .inr (0, [.ref p_mounts, .ref p_lendings, .ref p_log, .ref p_undos])), (p_log, .inr (2, [.int d_log_most, .ref p_log_cells, .int d_log_many])), (p_log_cells, .inl (cI, 48, .inl d_log_cells)), (p_mounts, .inr (2, [.int d_mounts_most, .ref p_mounts_cells, .int d_mounts_many])), (p_mounts_cells, .inl (cI, 48, .inl d_mounts_cells))] : va_W) sz) [(p_this, .inr (0, [.ref p_mounts, .ref p_lendings, .ref p_log, .ref p_undos])), (p_log, .inr (2, [.int d_log_most, .ref p_log_cells, .int d_log_many])), (p_log_cells, .inl (cI, 48, .inl d_log_cells)), (p_mounts, .inr (2, [.int d_mounts_most, .ref p_mounts_cells, .int d_mounts_many])), (p_mounts_cells, .inl (cI, 48, .inl d_mounts_cells))]) (va_A ([(p_this, .inr (0, [.ref p_mounts, .ref p_lendings, .ref p_log, .ref p_undos])), (p_log, .inr (2, [.int d_log_most, .ref p_log_cells, .int d_log_many])), (p_log_cells, .inl (cI, 48, .inl d_log_cells)), (p_mounts, .inr (2, [.int d_mounts_most, .ref p_mounts_cells, .int d_mounts_many])), (p_mounts_cells, .inl (cI, 48, .inl d_mounts_cells))] : va_W) sz)) 0 0 (va_A ([(p_this, .inr (0, [.ref p_mounts, .ref p_lendings, .ref p_log, .ref p_undos])), (p_log, .inr (2, [.int d_log_most, .ref p_log_cells, .int d_log_many])), (p_log_cells, .inl (cI, 48, .inl d_log_cells)), (p_mounts, .inr (2, [.int d_mounts_most, .ref p_mounts_cells, .int d_mounts_many])), (p_mounts_cells, .inl (cI, 48, .inl d_mounts_cells))] : va_W) sz) := by
  refine Met.ofW (cc := cX0_spansThatFit) (maxL := 10) (ret := (some .int)) (by decide) rfl ?_
  intro p e s m args below meth c s₁ B hml hv
  obtain ⟨rfl, hsz, hP, hK, hD0, hN⟩ := hv
  have hx := B.exec
  have hb := B.bytes
  have hr := B.returns
  have hts := atoms_spec (ws := wsX0_spansThatFit) B.pre
  have hown : s.vm.findClass RX0 = some m.cls := findClass_of_methodNamed B.named
  have hlocks := B.notSynchronized
  subst hsz
  have hD := hD0.self (sz := s.heap.size)
  generalize hAe : va_A ([(p_this, .inr (0, [.ref p_mounts, .ref p_lendings, .ref p_log, .ref p_undos])), (p_log, .inr (2, [.int d_log_most, .ref p_log_cells, .int d_log_many])), (p_log_cells, .inl (cI, 48, .inl d_log_cells)), (p_mounts, .inr (2, [.int d_mounts_most, .ref p_mounts_cells, .int d_mounts_many])), (p_mounts_cells, .inl (cI, 48, .inl d_mounts_cells))] : va_W) s.heap.size = A at hD ⊢
  have hA : ∀ q : Nat, s.heap.size ≤ q → A q := fun q h => by rw [← hAe]; exact Or.inr h
  have hS : va_S A s.heap s.heap [] := va_S.rf
  refine W_abs (fun Q hQ => ?_)
  have hl := lv_entry ([.ref p_this, .int x1, .int x2, .int x3]) (n := 10) (Nat.le_of_ble_eq_true rfl)
  rw [lg_entry_eq]
  generalize (lg_sl ([.ref p_this, .int x1, .int x2, .int x3]) ++ List.replicate (10 - (lg_sl ([.ref p_this, .int x1, .int x2, .int x3])).length) Slot.unset).toArray = ls at hl ⊢
  have hl : lv_has ls 10 [(0, .ref p_this), (1, .int x1), (2, .int x2), (3, .int x3)] := hl
  rw [f_X0_spansThatFit] at hrun
  refine W_start (ws := [(p_this, .inr (0, [.ref p_mounts, .ref p_lendings, .ref p_log, .ref p_undos])), (p_log, .inr (2, [.int d_log_most, .ref p_log_cells, .int d_log_many])), (p_log_cells, .inl (cI, 48, .inl d_log_cells)), (p_mounts, .inr (2, [.int d_mounts_most, .ref p_mounts_cells, .int d_mounts_many])), (p_mounts_cells, .inl (cI, 48, .inl d_mounts_cells))]) hP hS (fun H locs hP hS => ?_)
  refine lv_aload_n hx hb dX0_spansThatFit_0 rfl (lv_at hl 0 rfl) ?_
  refine lv_iload_n hx hb dX0_spansThatFit_1 rfl (lv_at hl 1 rfl) ?_
  refine lv_iload_n hx hb dX0_spansThatFit_2 rfl (lv_at hl 2 rfl) ?_
  obtain ⟨q3, hq3, hrun⟩ := bind_out hrun
  have hPc : va_P (dC, dI) vwCl [(p_this, .inr (0, [.ref p_mounts, .ref p_lendings, .ref p_log, .ref p_undos])), (p_log, .inr (2, [.int d_log_most, .ref p_log_cells, .int d_log_many])), (p_log_cells, .inl (cI, 48, .inl d_log_cells)), (p_mounts, .inr (2, [.int d_mounts_most, .ref p_mounts_cells, .int d_mounts_many])), (p_mounts_cells, .inl (cI, 48, .inl d_mounts_cells))] H := hP.sub [0, 1, 2, 3, 4] rfl
  have hDc : va_D A [(p_this, .inr (0, [.ref p_mounts, .ref p_lendings, .ref p_log, .ref p_undos])), (p_log, .inr (2, [.int d_log_most, .ref p_log_cells, .int d_log_many])), (p_log_cells, .inl (cI, 48, .inl d_log_cells)), (p_mounts, .inr (2, [.int d_mounts_most, .ref p_mounts_cells, .int d_mounts_many])), (p_mounts_cells, .inl (cI, 48, .inl d_mounts_cells))] := hD.sub [0, 1, 2, 3, 4] (by decide) rfl
  have hFc := va_free (wc := [(p_this, .inr (0, [.ref p_mounts, .ref p_lendings, .ref p_log, .ref p_undos])), (p_log, .inr (2, [.int d_log_most, .ref p_log_cells, .int d_log_many])), (p_log_cells, .inl (cI, 48, .inl d_log_cells)), (p_mounts, .inr (2, [.int d_mounts_most, .ref p_mounts_cells, .int d_mounts_many])), (p_mounts_cells, .inl (cI, 48, .inl d_mounts_cells))]) hD hS hA [0, 1, 2, 3, 4] rfl
  refine va_calli (va_runV (As := [.int x1, .int x2]) (rest := []) ⟨hx, hb, hml, hown, hts⟩ (c_X0_isHeardElsewhere l dC dI cI cZ H.size p_lendings p_log p_log_cells p_mounts p_mounts_cells p_this p_undos d_log_most d_log_many d_log_cells d_mounts_most d_mounts_many d_mounts_cells x1 x2 q3 hq3) (cwV 2 hts gX0_spansThatFit_X0_isHeardElsewhere rfl rfl rfl (by decide +kernel) ⟨Nat.le_of_ble_eq_true rfl, Nat.le_of_ble_eq_true rfl⟩) ⟨fun a U g mk q => ⟨q.1, PC.mv q.2⟩, va_recv hK hP (ci := 0) (q0 := 0) rfl rfl, fun U hU hW => ⟨rfl, PC.of hU hW hPc hK hDc hN⟩⟩ rfl rfl hl.1 rfl (lv_room (Nat.le_of_ble_eq_true rfl)) dX0_spansThatFit_3 ⟨Nat.zero_le _, Nat.zero_le _⟩) hS (fun q _ h => hFc q h) hFc (fun r_3 u t H1 locs ht hvm hw hB hz1 hk1 hS => ?_)
  obtain ⟨hP1, hD1⟩ := hB
  try dsimp only at hw
  rw [hw]
  rw [ht] at hP1
  have hP : va_P (dC, dI) vwCl [(p_this, .inr (0, [.ref p_mounts, .ref p_lendings, .ref p_log, .ref p_undos])), (p_log, .inr (2, [.int d_log_most, .ref p_log_cells, .int d_log_many])), (p_log_cells, .inl (cI, 48, .inl d_log_cells)), (p_mounts, .inr (2, [.int d_mounts_most, .ref p_mounts_cells, .int d_mounts_many])), (p_mounts_cells, .inl (cI, 48, .inl d_mounts_cells))] H1 := join_ro hP hD [0, 1, 2, 3, 4] rfl hk1 hP1
  clear hPc hDc hFc hk1 hz1 hP1 hD1 ht hvm
  generalize H1 = H at hP hS ⊢
  refine lv_if_eq (tgt := 11) hx hb dX0_spansThatFit_6 (by decide) (fun c_6 => ?_) (fun c_6 => ?_)
  · rw [if_pos c_6] at hrun
    refine lv_aload_n hx hb dX0_spansThatFit_11 rfl (lv_at hl 0 rfl) ?_
    refine lv_iload_n hx hb dX0_spansThatFit_12 rfl (lv_at hl 1 rfl) ?_
    refine lv_iload_n hx hb dX0_spansThatFit_13 rfl (lv_at hl 2 rfl) ?_
    refine lv_iconst (v := 1) hx hb dX0_spansThatFit_14 (by decide) ?_
    obtain ⟨q15, hq15, hrun⟩ := bind_out hrun
    have hPc : va_P (dC, dI) vwCl [(p_this, .inr (0, [.ref p_mounts, .ref p_lendings, .ref p_log, .ref p_undos])), (p_log, .inr (2, [.int d_log_most, .ref p_log_cells, .int d_log_many])), (p_log_cells, .inl (cI, 48, .inl d_log_cells)), (p_mounts, .inr (2, [.int d_mounts_most, .ref p_mounts_cells, .int d_mounts_many])), (p_mounts_cells, .inl (cI, 48, .inl d_mounts_cells))] H := hP.sub [0, 1, 2, 3, 4] rfl
    have hDc : va_D A [(p_this, .inr (0, [.ref p_mounts, .ref p_lendings, .ref p_log, .ref p_undos])), (p_log, .inr (2, [.int d_log_most, .ref p_log_cells, .int d_log_many])), (p_log_cells, .inl (cI, 48, .inl d_log_cells)), (p_mounts, .inr (2, [.int d_mounts_most, .ref p_mounts_cells, .int d_mounts_many])), (p_mounts_cells, .inl (cI, 48, .inl d_mounts_cells))] := hD.sub [0, 1, 2, 3, 4] (by decide) rfl
    have hFc := va_free (wc := [(p_this, .inr (0, [.ref p_mounts, .ref p_lendings, .ref p_log, .ref p_undos])), (p_log, .inr (2, [.int d_log_most, .ref p_log_cells, .int d_log_many])), (p_log_cells, .inl (cI, 48, .inl d_log_cells)), (p_mounts, .inr (2, [.int d_mounts_most, .ref p_mounts_cells, .int d_mounts_many])), (p_mounts_cells, .inl (cI, 48, .inl d_mounts_cells))]) hD hS hA [0, 1, 2, 3, 4] rfl
    refine va_calli (va_runV (As := [.int x1, .int x2, .int 1]) (rest := []) ⟨hx, hb, hml, hown, hts⟩ (c_X0_hoursLogged l dC dI cI cZ H.size p_lendings p_log p_log_cells p_mounts p_mounts_cells p_this p_undos d_log_most d_log_many d_log_cells d_mounts_most d_mounts_many d_mounts_cells x1 x2 1 q15 hq15) (cwV 3 hts gX0_spansThatFit_X0_hoursLogged rfl rfl rfl (by decide +kernel) ⟨Nat.le_of_ble_eq_true rfl, Nat.le_of_ble_eq_true rfl⟩) ⟨fun a U g mk q => ⟨q.1, PC.mv q.2⟩, va_recv hK hP (ci := 0) (q0 := 0) rfl rfl, fun U hU hW => ⟨rfl, PC.of hU hW hPc hK hDc hN⟩⟩ rfl rfl hl.1 rfl (lv_room (Nat.le_of_ble_eq_true rfl)) dX0_spansThatFit_15 ⟨Nat.zero_le _, Nat.zero_le _⟩) hS (fun q _ h => hFc q h) hFc (fun r_15 u t H1 locs ht hvm hw hB hz1 hk1 hS => ?_)
    obtain ⟨hP1, hD1⟩ := hB
    try dsimp only at hw
    rw [hw]
    rw [ht] at hP1
    have hP : va_P (dC, dI) vwCl [(p_this, .inr (0, [.ref p_mounts, .ref p_lendings, .ref p_log, .ref p_undos])), (p_log, .inr (2, [.int d_log_most, .ref p_log_cells, .int d_log_many])), (p_log_cells, .inl (cI, 48, .inl d_log_cells)), (p_mounts, .inr (2, [.int d_mounts_most, .ref p_mounts_cells, .int d_mounts_many])), (p_mounts_cells, .inl (cI, 48, .inl d_mounts_cells))] H1 := join_ro hP hD [0, 1, 2, 3, 4] rfl hk1 hP1
    clear hPc hDc hFc hk1 hz1 hP1 hD1 ht hvm
    generalize H1 = H at hP hS ⊢
    refine lv_iload_n hx hb dX0_spansThatFit_18 rfl (lv_at hl 3 rfl) ?_
    refine lv_ior hx hb dX0_spansThatFit_19 ?_
    refine lv_istore (lv' := [(4, .int (q15 ||| x3)), (0, .ref p_this), (1, .int x1), (2, .int x2), (3, .int x3)]) hx hb dX0_spansThatFit_20 hl (by decide) rfl (fun ls hl => ?_)
    refine lv_aload_n hx hb dX0_spansThatFit_22 rfl (lv_at hl 1 rfl) ?_
    refine lv_iload_n hx hb dX0_spansThatFit_23 rfl (lv_at hl 2 rfl) ?_
    refine lv_iload_n hx hb dX0_spansThatFit_24 rfl (lv_at hl 3 rfl) ?_
    refine lv_iconst (v := 0) hx hb dX0_spansThatFit_25 (by decide) ?_
    obtain ⟨q26, hq26, hrun⟩ := bind_out hrun
    have hPc : va_P (dC, dI) vwCl [(p_this, .inr (0, [.ref p_mounts, .ref p_lendings, .ref p_log, .ref p_undos])), (p_log, .inr (2, [.int d_log_most, .ref p_log_cells, .int d_log_many])), (p_log_cells, .inl (cI, 48, .inl d_log_cells)), (p_mounts, .inr (2, [.int d_mounts_most, .ref p_mounts_cells, .int d_mounts_many])), (p_mounts_cells, .inl (cI, 48, .inl d_mounts_cells))] H := hP.sub [0, 1, 2, 3, 4] rfl
    have hDc : va_D A [(p_this, .inr (0, [.ref p_mounts, .ref p_lendings, .ref p_log, .ref p_undos])), (p_log, .inr (2, [.int d_log_most, .ref p_log_cells, .int d_log_many])), (p_log_cells, .inl (cI, 48, .inl d_log_cells)), (p_mounts, .inr (2, [.int d_mounts_most, .ref p_mounts_cells, .int d_mounts_many])), (p_mounts_cells, .inl (cI, 48, .inl d_mounts_cells))] := hD.sub [0, 1, 2, 3, 4] (by decide) rfl
    have hFc := va_free (wc := [(p_this, .inr (0, [.ref p_mounts, .ref p_lendings, .ref p_log, .ref p_undos])), (p_log, .inr (2, [.int d_log_most, .ref p_log_cells, .int d_log_many])), (p_log_cells, .inl (cI, 48, .inl d_log_cells)), (p_mounts, .inr (2, [.int d_mounts_most, .ref p_mounts_cells, .int d_mounts_many])), (p_mounts_cells, .inl (cI, 48, .inl d_mounts_cells))]) hD hS hA [0, 1, 2, 3, 4] rfl
    refine va_calli (va_runV (As := [.int x1, .int x2, .int 0]) (rest := []) ⟨hx, hb, hml, hown, hts⟩ (c_X0_hoursLogged l dC dI cI cZ H.size p_lendings p_log p_log_cells p_mounts p_mounts_cells p_this p_undos d_log_most d_log_many d_log_cells d_mounts_most d_mounts_many d_mounts_cells x1 x2 0 q26 hq26) (cwV 3 hts gX0_spansThatFit_X0_hoursLogged rfl rfl rfl (by decide +kernel) ⟨Nat.le_of_ble_eq_true rfl, Nat.le_of_ble_eq_true rfl⟩) ⟨fun a U g mk q => ⟨q.1, PC.mv q.2⟩, va_recv hK hP (ci := 0) (q0 := 0) rfl rfl, fun U hU hW => ⟨rfl, PC.of hU hW hPc hK hDc hN⟩⟩ rfl rfl hl.1 rfl (lv_room (Nat.le_of_ble_eq_true rfl)) dX0_spansThatFit_26 ⟨Nat.zero_le _, Nat.zero_le _⟩) hS (fun q _ h => hFc q h) hFc (fun r_26 u t H1 locs ht hvm hw hB hz1 hk1 hS => ?_)
    obtain ⟨hP1, hD1⟩ := hB
    try dsimp only at hw
    rw [hw]
    rw [ht] at hP1
    have hP : va_P (dC, dI) vwCl [(p_this, .inr (0, [.ref p_mounts, .ref p_lendings, .ref p_log, .ref p_undos])), (p_log, .inr (2, [.int d_log_most, .ref p_log_cells, .int d_log_many])), (p_log_cells, .inl (cI, 48, .inl d_log_cells)), (p_mounts, .inr (2, [.int d_mounts_most, .ref p_mounts_cells, .int d_mounts_many])), (p_mounts_cells, .inl (cI, 48, .inl d_mounts_cells))] H1 := join_ro hP hD [0, 1, 2, 3, 4] rfl hk1 hP1
    clear hPc hDc hFc hk1 hz1 hP1 hD1 ht hvm
    generalize H1 = H at hP hS ⊢
    refine lv_istore (lv' := [(5, .int q26), (4, .int (q15 ||| x3)), (0, .ref p_this), (1, .int x1), (2, .int x2), (3, .int x3)]) hx hb dX0_spansThatFit_29 hl (by decide) rfl (fun ls hl => ?_)
    refine lv_iconst (v := 0) hx hb dX0_spansThatFit_31 (by decide) ?_
    refine lv_istore (lv' := [(6, .int 0), (5, .int q26), (4, .int (q15 ||| x3)), (0, .ref p_this), (1, .int x1), (2, .int x2), (3, .int x3)]) hx hb dX0_spansThatFit_32 hl (by decide) rfl (fun ls hl => ?_)
    refine lv_iconst (v := 0) hx hb dX0_spansThatFit_34 (by decide) ?_
    refine lv_istore (lv' := [(7, .int 0), (6, .int 0), (5, .int q26), (4, .int (q15 ||| x3)), (0, .ref p_this), (1, .int x1), (2, .int x2), (3, .int x3)]) hx hb dX0_spansThatFit_35 hl (by decide) rfl (fun ls hl => ?_)
    have L37 : ∀ (n9_37 : Nat) (x6_37 : Int32) (x7_37 : Int32) (H : Heap) (locs : List Loc), va_P (dC, dI) vwCl [(p_this, .inr (0, [.ref p_mounts, .ref p_lendings, .ref p_log, .ref p_undos])), (p_log, .inr (2, [.int d_log_most, .ref p_log_cells, .int d_log_many])), (p_log_cells, .inl (cI, 48, .inl d_log_cells)), (p_mounts, .inr (2, [.int d_mounts_most, .ref p_mounts_cells, .int d_mounts_many])), (p_mounts_cells, .inl (cI, 48, .inl d_mounts_cells))] H → va_D A [(p_this, .inr (0, [.ref p_mounts, .ref p_lendings, .ref p_log, .ref p_undos])), (p_log, .inr (2, [.int d_log_most, .ref p_log_cells, .int d_log_many])), (p_log_cells, .inl (cI, 48, .inl d_log_cells)), (p_mounts, .inr (2, [.int d_mounts_most, .ref p_mounts_cells, .int d_mounts_many])), (p_mounts_cells, .inl (cI, 48, .inl d_mounts_cells))] → va_S A s.heap H locs → ∀ ls : Array Slot, lv_has ls 10 [(4, .int (q15 ||| x3)), (5, .int q26), (6, .int x6_37), (7, .int x7_37)] → f_X0_spansThatFit_L37 (q15 ||| x3) q26 n9_37 x6_37 x7_37 = some out → W p l e ({ frames := 4, cells := 0, slots := 0, locals := 93 } : Room) s m ([.ref p_this, .int x1, .int x2, .int x3] : List Value).toArray below meth c H locs 0 0 Q (F0 m 37 ls []) := by
      intro n9_37
      induction n9_37 with
      | zero =>
        intro x6_37 x7_37 H locs hP hD hS ls hl hrun
        rw [f_X0_spansThatFit_L37] at hrun
        cases hrun
      | succ n9_37 ih37 =>
        intro x6_37 x7_37 H locs hP hD hS ls hl hrun
        rw [f_X0_spansThatFit_L37] at hrun
        refine lv_iload hx hb dX0_spansThatFit_37 (lv_at hl 3 rfl) ?_
        refine lv_bipush (v := 24) hx hb dX0_spansThatFit_39 (by decide) ?_
        refine lv_icmp_ge (tgt := 100) hx hb dX0_spansThatFit_41 (by decide) (fun c_41 => ?_) (fun c_41 => ?_)
        · rw [if_pos c_41] at hrun
          refine lv_iload hx hb dX0_spansThatFit_100 (lv_at hl 2 rfl) ?_
          have hrun := Option.some.inj hrun
          subst hrun
          rw [hQ]
          exact W.iret (v := x6_37) hx hb hr (fun t ht hW => ⟨⟨x6_37, (), rfl, rfl, by rw [ht]; exact hP, hD⟩, hS.F ht⟩) hS.2.2 dX0_spansThatFit_102
        · rw [if_neg c_41] at hrun
          refine lv_iconst (v := 0) hx hb dX0_spansThatFit_44 (by decide) ?_
          refine lv_istore (lv' := [(8, .int 0), (4, .int (q15 ||| x3)), (5, .int q26), (6, .int x6_37), (7, .int x7_37)]) hx hb dX0_spansThatFit_45 hl (by decide) rfl (fun ls hl => ?_)
          refine lv_iload hx hb dX0_spansThatFit_47 (lv_at hl 4 rfl) ?_
          refine lv_istore (lv' := [(9, .int x7_37), (8, .int 0), (4, .int (q15 ||| x3)), (5, .int q26), (6, .int x6_37), (7, .int x7_37)]) hx hb dX0_spansThatFit_49 hl (by decide) rfl (fun ls hl => ?_)
          have X94 : ∀ (x6_94 : Int32) (H : Heap) (locs : List Loc), va_P (dC, dI) vwCl [(p_this, .inr (0, [.ref p_mounts, .ref p_lendings, .ref p_log, .ref p_undos])), (p_log, .inr (2, [.int d_log_most, .ref p_log_cells, .int d_log_many])), (p_log_cells, .inl (cI, 48, .inl d_log_cells)), (p_mounts, .inr (2, [.int d_mounts_most, .ref p_mounts_cells, .int d_mounts_many])), (p_mounts_cells, .inl (cI, 48, .inl d_mounts_cells))] H → va_D A [(p_this, .inr (0, [.ref p_mounts, .ref p_lendings, .ref p_log, .ref p_undos])), (p_log, .inr (2, [.int d_log_most, .ref p_log_cells, .int d_log_many])), (p_log_cells, .inl (cI, 48, .inl d_log_cells)), (p_mounts, .inr (2, [.int d_mounts_most, .ref p_mounts_cells, .int d_mounts_many])), (p_mounts_cells, .inl (cI, 48, .inl d_mounts_cells))] → va_S A s.heap H locs → ∀ ls : Array Slot, lv_has ls 10 [(4, .int (q15 ||| x3)), (5, .int q26), (6, .int x6_94), (7, .int x7_37)] → f_X0_spansThatFit_X94 (f_X0_spansThatFit_L37 (q15 ||| x3) q26 n9_37) (q15 ||| x3) q26 x7_37 x6_94 = some out → W p l e ({ frames := 4, cells := 0, slots := 0, locals := 93 } : Room) s m ([.ref p_this, .int x1, .int x2, .int x3] : List Value).toArray below meth c H locs 0 0 Q (F0 m 94 ls []) := by
            intro x6_94 H locs hP hD hS ls hl hrun
            rw [f_X0_spansThatFit_X94] at hrun
            refine lv_iinc (v := x7_37 + 1) (lv' := [(7, .int (x7_37 + 1)), (4, .int (q15 ||| x3)), (5, .int q26), (6, .int x6_94)]) hx hb dX0_spansThatFit_94 hl (k := 3) rfl rfl (by decide) rfl (fun ls hl => ?_)
            refine lv_goto (tgt := 37) hx hb dX0_spansThatFit_97 (by decide) ?_
            exact ih37 x6_94 (x7_37 + 1) H locs hP hD hS ls (lv_sub hl [1, 2, 3, 0] rfl) hrun
          have L51 : ∀ (n9_51 : Nat) (x6_51 : Int32) (x8_51 : Int32) (x9_51 : Int32) (H : Heap) (locs : List Loc), va_P (dC, dI) vwCl [(p_this, .inr (0, [.ref p_mounts, .ref p_lendings, .ref p_log, .ref p_undos])), (p_log, .inr (2, [.int d_log_most, .ref p_log_cells, .int d_log_many])), (p_log_cells, .inl (cI, 48, .inl d_log_cells)), (p_mounts, .inr (2, [.int d_mounts_most, .ref p_mounts_cells, .int d_mounts_many])), (p_mounts_cells, .inl (cI, 48, .inl d_mounts_cells))] H → va_D A [(p_this, .inr (0, [.ref p_mounts, .ref p_lendings, .ref p_log, .ref p_undos])), (p_log, .inr (2, [.int d_log_most, .ref p_log_cells, .int d_log_many])), (p_log_cells, .inl (cI, 48, .inl d_log_cells)), (p_mounts, .inr (2, [.int d_mounts_most, .ref p_mounts_cells, .int d_mounts_many])), (p_mounts_cells, .inl (cI, 48, .inl d_mounts_cells))] → va_S A s.heap H locs → ∀ ls : Array Slot, lv_has ls 10 [(4, .int (q15 ||| x3)), (5, .int q26), (6, .int x6_51), (7, .int x7_37), (8, .int x8_51), (9, .int x9_51)] → f_X0_spansThatFit_L51 (f_X0_spansThatFit_X94 (f_X0_spansThatFit_L37 (q15 ||| x3) q26 n9_37) (q15 ||| x3) q26 x7_37) (q15 ||| x3) q26 x7_37 n9_51 x6_51 x8_51 x9_51 = some out → W p l e ({ frames := 4, cells := 0, slots := 0, locals := 93 } : Room) s m ([.ref p_this, .int x1, .int x2, .int x3] : List Value).toArray below meth c H locs 0 0 Q (F0 m 51 ls []) := by
            intro n9_51
            induction n9_51 with
            | zero =>
              intro x6_51 x8_51 x9_51 H locs hP hD hS ls hl hrun
              rw [f_X0_spansThatFit_L51] at hrun
              cases hrun
            | succ n9_51 ih51 =>
              intro x6_51 x8_51 x9_51 H locs hP hD hS ls hl hrun
              rw [f_X0_spansThatFit_L51] at hrun
              refine lv_iload hx hb dX0_spansThatFit_51 (lv_at hl 5 rfl) ?_
              refine lv_bipush (v := 24) hx hb dX0_spansThatFit_53 (by decide) ?_
              refine lv_icmp_ge (tgt := 94) hx hb dX0_spansThatFit_55 (by decide) (fun c_55 => ?_) (fun c_55 => ?_)
              · rw [if_pos c_55] at hrun
                exact X94 x6_51 H locs hP hD hS ls (lv_sub hl [0, 1, 2, 3] rfl) hrun
              · rw [if_neg c_55] at hrun
                refine lv_iload hx hb dX0_spansThatFit_58 (lv_at hl 4 rfl) ?_
                refine lv_iconst (v := 1) hx hb dX0_spansThatFit_60 (by decide) ?_
                refine lv_iload hx hb dX0_spansThatFit_61 (lv_at hl 5 rfl) ?_
                refine lv_ishl hx hb dX0_spansThatFit_63 ?_
                refine lv_ior hx hb dX0_spansThatFit_64 ?_
                refine lv_istore (lv' := [(8, .int (x8_51 ||| (1 <<< (x9_51 &&& 31)))), (4, .int (q15 ||| x3)), (5, .int q26), (6, .int x6_51), (7, .int x7_37), (9, .int x9_51)]) hx hb dX0_spansThatFit_65 hl (by decide) rfl (fun ls hl => ?_)
                refine lv_iload hx hb dX0_spansThatFit_67 (lv_at hl 0 rfl) ?_
                refine lv_iload hx hb dX0_spansThatFit_69 (lv_at hl 1 rfl) ?_
                refine lv_iand hx hb dX0_spansThatFit_71 ?_
                refine lv_iload hx hb dX0_spansThatFit_72 (lv_at hl 1 rfl) ?_
                have J88 : ∀ (x6_88 : Int32) (H : Heap) (locs : List Loc), va_P (dC, dI) vwCl [(p_this, .inr (0, [.ref p_mounts, .ref p_lendings, .ref p_log, .ref p_undos])), (p_log, .inr (2, [.int d_log_most, .ref p_log_cells, .int d_log_many])), (p_log_cells, .inl (cI, 48, .inl d_log_cells)), (p_mounts, .inr (2, [.int d_mounts_most, .ref p_mounts_cells, .int d_mounts_many])), (p_mounts_cells, .inl (cI, 48, .inl d_mounts_cells))] H → va_D A [(p_this, .inr (0, [.ref p_mounts, .ref p_lendings, .ref p_log, .ref p_undos])), (p_log, .inr (2, [.int d_log_most, .ref p_log_cells, .int d_log_many])), (p_log_cells, .inl (cI, 48, .inl d_log_cells)), (p_mounts, .inr (2, [.int d_mounts_most, .ref p_mounts_cells, .int d_mounts_many])), (p_mounts_cells, .inl (cI, 48, .inl d_mounts_cells))] → va_S A s.heap H locs → ∀ ls : Array Slot, lv_has ls 10 [(4, .int (q15 ||| x3)), (5, .int q26), (6, .int x6_88), (7, .int x7_37), (8, .int (x8_51 ||| (1 <<< (x9_51 &&& 31)))), (9, .int x9_51)] → f_X0_spansThatFit_J88 (f_X0_spansThatFit_L51 (f_X0_spansThatFit_X94 (f_X0_spansThatFit_L37 (q15 ||| x3) q26 n9_37) (q15 ||| x3) q26 x7_37) (q15 ||| x3) q26 x7_37 n9_51) (q15 ||| x3) q26 x7_37 (x8_51 ||| (1 <<< (x9_51 &&& 31))) x9_51 x6_88 = some out → W p l e ({ frames := 4, cells := 0, slots := 0, locals := 93 } : Room) s m ([.ref p_this, .int x1, .int x2, .int x3] : List Value).toArray below meth c H locs 0 0 Q (F0 m 88 ls []) := by
                  intro x6_88 H locs hP hD hS ls hl hrun
                  rw [f_X0_spansThatFit_J88] at hrun
                  refine lv_iinc (v := x9_51 + 1) (lv' := [(9, .int (x9_51 + 1)), (4, .int (q15 ||| x3)), (5, .int q26), (6, .int x6_88), (7, .int x7_37), (8, .int (x8_51 ||| (1 <<< (x9_51 &&& 31))))]) hx hb dX0_spansThatFit_88 hl (k := 5) rfl rfl (by decide) rfl (fun ls hl => ?_)
                  refine lv_goto (tgt := 51) hx hb dX0_spansThatFit_91 (by decide) ?_
                  exact ih51 x6_88 (x8_51 ||| (1 <<< (x9_51 &&& 31))) (x9_51 + 1) H locs hP hD hS ls (lv_sub hl [1, 2, 3, 4, 5, 0] rfl) hrun
                refine lv_icmp_ne (tgt := 88) hx hb dX0_spansThatFit_74 (by decide) (fun c_74 => ?_) (fun c_74 => ?_)
                · rw [if_neg c_74] at hrun
                  exact J88 x6_51 H locs hP hD hS ls (lv_sub hl [1, 2, 3, 4, 0, 5] rfl) hrun
                · rw [if_pos c_74] at hrun
                  refine lv_iload hx hb dX0_spansThatFit_77 (lv_at hl 0 rfl) ?_
                  refine lv_iload hx hb dX0_spansThatFit_79 (lv_at hl 2 rfl) ?_
                  refine lv_iand hx hb dX0_spansThatFit_81 ?_
                  refine lv_if_ne (tgt := 88) hx hb dX0_spansThatFit_82 (by decide) (fun c_82 => ?_) (fun c_82 => ?_)
                  · rw [if_neg c_82] at hrun
                    exact J88 x6_51 H locs hP hD hS ls (lv_sub hl [1, 2, 3, 4, 0, 5] rfl) hrun
                  · rw [if_pos c_82] at hrun
                    refine lv_iinc (v := x6_51 + 1) (lv' := [(6, .int (x6_51 + 1)), (8, .int (x8_51 ||| (1 <<< (x9_51 &&& 31)))), (4, .int (q15 ||| x3)), (5, .int q26), (7, .int x7_37), (9, .int x9_51)]) hx hb dX0_spansThatFit_85 hl (k := 3) rfl rfl (by decide) rfl (fun ls hl => ?_)
                    exact J88 (x6_51 + 1) H locs hP hD hS ls (lv_sub hl [2, 3, 0, 4, 1, 5] rfl) hrun
          exact L51 FU x6_37 0 x7_37 H locs hP hD hS ls (lv_sub hl [2, 3, 4, 5, 1, 0] rfl) hrun
    exact L37 FU 0 0 H locs hP hD hS ls (lv_sub hl [3, 2, 1, 0] rfl) hrun
  · rw [if_neg c_6] at hrun
    refine lv_iconst (v := 0) hx hb dX0_spansThatFit_9 (by decide) ?_
    have hrun := Option.some.inj hrun
    subst hrun
    rw [hQ]
    exact W.iret (v := 0) hx hb hr (fun t ht hW => ⟨⟨0, (), rfl, rfl, by rw [ht]; exact hP, hD⟩, hS.F ht⟩) hS.2.2 dX0_spansThatFit_10
