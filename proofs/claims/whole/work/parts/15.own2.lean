-- SkyListeners.undo
def f_X5_undo (d_now_lendings_many : Int32) (d_now_mounts_many : Int32) (d_now_mounts_cells : Nat → Int32) (d_now_undos_many : Int32) (d_now_undos_cells : Nat → Int32) : Int32 × Int32 × (Nat → Int32) × Int32 := (if d_now_undos_many = 0 then (((-2), d_now_lendings_many, d_now_mounts_cells, d_now_undos_many)) else (((f_X0_takeBack d_now_lendings_many d_now_mounts_many d_now_mounts_cells d_now_undos_many d_now_undos_cells).2.2, (f_X0_takeBack d_now_lendings_many d_now_mounts_many d_now_mounts_cells d_now_undos_many d_now_undos_cells).1, (f_X0_takeBack d_now_lendings_many d_now_mounts_many d_now_mounts_cells d_now_undos_many d_now_undos_cells).2.1, (f_X0_takeBack d_now_lendings_many d_now_mounts_many d_now_mounts_cells d_now_undos_many d_now_undos_cells).2.2)))
set_option maxHeartbeats 4000000 in
set_option maxRecDepth 100000 in
theorem c_X5_undo (l : Launch) (dC : Nat → ClassId) (dI : Nat → Nat → Nat) (cI cZ : ClassId) (sz : Nat) (p_draft p_imageOne p_imageZero p_now p_now_lendings p_now_lendings_cells p_now_log p_now_mounts p_now_mounts_cells p_now_undos p_now_undos_cells p_placesOf p_reader p_slots p_text p_this p_told : Nat) (d_keptImages : Int32) (d_traced : Int64) (d_now_lendings_most : Int32) (d_now_lendings_many : Int32) (d_now_mounts_most : Int32) (d_now_mounts_many : Int32) (d_now_mounts_cells : Nat → Int32) (d_now_undos_most : Int32) (d_now_undos_many : Int32) (d_now_undos_cells : Nat → Int32) (out : Int32 × Int32 × (Nat → Int32) × Int32) (hrun : f_X5_undo d_now_lendings_many d_now_mounts_many d_now_mounts_cells d_now_undos_many d_now_undos_cells = out) : Met l yX5_undo wsX5_undo ({ frames := 3, cells := 0, slots := 0, locals := 66 } : Room) (va_Pc [.ref p_this] (PC dC dI cI cZ sz ([(p_this, .inr (5, [.ref p_text, .ref p_reader, .ref p_told, .ref p_draft, .ref p_now, .ref p_imageZero, .ref p_imageOne, .ref p_slots, .ref p_placesOf, .int d_keptImages, .long d_traced])), (p_now, .inr (0, [.ref p_now_mounts, .ref p_now_lendings, .ref p_now_log, .ref p_now_undos])), (p_now_lendings, .inr (2, [.int d_now_lendings_most, .ref p_now_lendings_cells, .int d_now_lendings_many])), (p_now_mounts, .inr (2, [.int d_now_mounts_most, .ref p_now_mounts_cells, .int d_now_mounts_many])), (p_now_mounts_cells, .inl (cI, 48, .inl d_now_mounts_cells)), (p_now_undos, .inr (2, [.int d_now_undos_most, .ref p_now_undos_cells, .int d_now_undos_many])), (p_now_undos_cells, .inl (cI, 48, .inl d_now_undos_cells))] : va_W))) (va_Qi (fun r (_ : Unit) => r = out.1) (fun _ t => va_P (dC, dI) vwCl [(p_this, .inr (5, [.ref p_text, .ref p_reader, .ref p_told, .ref p_draft, .ref p_now, .ref p_imageZero, .ref p_imageOne, .ref p_slots, .ref p_placesOf, .int d_keptImages, .long d_traced])), (p_now, .inr (0, [.ref p_now_mounts, .ref p_now_lendings, .ref p_now_log, .ref p_now_undos])), (p_now_lendings, .inr (2, [.int d_now_lendings_most, .ref p_now_lendings_cells, .int out.2.1])), (p_now_mounts, .inr (2, [.int d_now_mounts_most, .ref p_now_mounts_cells, .int d_now_mounts_many])), (p_now_mounts_cells, .inl (cI, 48, .inl out.2.2.1)), (p_now_undos, .inr (2, [.int d_now_undos_most, .ref p_now_undos_cells, .int out.2.2.2])), (p_now_undos_cells, .inl (cI, 48, .inl d_now_undos_cells))] t.heap ∧ va_D (va_A ([(p_this, .inr (5, [.ref p_text, .ref p_reader, .ref p_told, .ref p_draft, .ref p_now, .ref p_imageZero, .ref p_imageOne, .ref p_slots, .ref p_placesOf, .int d_keptImages, .long d_traced])), (p_now, .inr (0, [.ref p_now_mounts, .ref p_now_lendings, .ref p_now_log, .ref p_now_undos])), (p_now_lendings, .inr (2, [.int d_now_lendings_most, .ref p_now_lendings_cells, .int d_now_lendings_many])), (p_now_mounts, .inr (2, [.int d_now_mounts_most, .ref p_now_mounts_cells, .int d_now_mounts_many])), (p_now_mounts_cells, .inl (cI, 48, .inl d_now_mounts_cells)), (p_now_undos, .inr (2, [.int d_now_undos_most, .ref p_now_undos_cells, .int d_now_undos_many])), (p_now_undos_cells, .inl (cI, 48, .inl d_now_undos_cells))] : va_W) sz) [(p_this, .inr (5, [.ref p_text, .ref p_reader, .ref p_told, .ref p_draft, .ref p_now, .ref p_imageZero, .ref p_imageOne, .ref p_slots, .ref p_placesOf, .int d_keptImages, .long d_traced])), (p_now, .inr (0, [.ref p_now_mounts, .ref p_now_lendings, .ref p_now_log, .ref p_now_undos])), (p_now_lendings, .inr (2, [.int d_now_lendings_most, .ref p_now_lendings_cells, .int out.2.1])), (p_now_mounts, .inr (2, [.int d_now_mounts_most, .ref p_now_mounts_cells, .int d_now_mounts_many])), (p_now_mounts_cells, .inl (cI, 48, .inl out.2.2.1)), (p_now_undos, .inr (2, [.int d_now_undos_most, .ref p_now_undos_cells, .int out.2.2.2])), (p_now_undos_cells, .inl (cI, 48, .inl d_now_undos_cells))]) (va_A ([(p_this, .inr (5, [.ref p_text, .ref p_reader, .ref p_told, .ref p_draft, .ref p_now, .ref p_imageZero, .ref p_imageOne, .ref p_slots, .ref p_placesOf, .int d_keptImages, .long d_traced])), (p_now, .inr (0, [.ref p_now_mounts, .ref p_now_lendings, .ref p_now_log, .ref p_now_undos])), (p_now_lendings, .inr (2, [.int d_now_lendings_most, .ref p_now_lendings_cells, .int d_now_lendings_many])), (p_now_mounts, .inr (2, [.int d_now_mounts_most, .ref p_now_mounts_cells, .int d_now_mounts_many])), (p_now_mounts_cells, .inl (cI, 48, .inl d_now_mounts_cells)), (p_now_undos, .inr (2, [.int d_now_undos_most, .ref p_now_undos_cells, .int d_now_undos_many])), (p_now_undos_cells, .inl (cI, 48, .inl d_now_undos_cells))] : va_W) sz)) 0 0 (va_A ([(p_this, .inr (5, [.ref p_text, .ref p_reader, .ref p_told, .ref p_draft, .ref p_now, .ref p_imageZero, .ref p_imageOne, .ref p_slots, .ref p_placesOf, .int d_keptImages, .long d_traced])), (p_now, .inr (0, [.ref p_now_mounts, .ref p_now_lendings, .ref p_now_log, .ref p_now_undos])), (p_now_lendings, .inr (2, [.int d_now_lendings_most, .ref p_now_lendings_cells, .int d_now_lendings_many])), (p_now_mounts, .inr (2, [.int d_now_mounts_most, .ref p_now_mounts_cells, .int d_now_mounts_many])), (p_now_mounts_cells, .inl (cI, 48, .inl d_now_mounts_cells)), (p_now_undos, .inr (2, [.int d_now_undos_most, .ref p_now_undos_cells, .int d_now_undos_many])), (p_now_undos_cells, .inl (cI, 48, .inl d_now_undos_cells))] : va_W) sz) := by
  refine Met.ofW (cc := cX5_undo) (maxL := 1) (ret := (some .int)) (by decide) rfl ?_
  intro p e s m args below meth c s₁ B hml hv
  obtain ⟨rfl, hsz, hP, hK, hD0, hN⟩ := hv
  have hx := B.exec
  have hb := B.bytes
  have hr := B.returns
  have hts := atoms_spec (ws := wsX5_undo) B.pre
  have hown : s.vm.findClass RX5 = some m.cls := findClass_of_methodNamed B.named
  have hlocks := B.notSynchronized
  subst hsz
  have hD := hD0.self (sz := s.heap.size)
  generalize hAe : va_A ([(p_this, .inr (5, [.ref p_text, .ref p_reader, .ref p_told, .ref p_draft, .ref p_now, .ref p_imageZero, .ref p_imageOne, .ref p_slots, .ref p_placesOf, .int d_keptImages, .long d_traced])), (p_now, .inr (0, [.ref p_now_mounts, .ref p_now_lendings, .ref p_now_log, .ref p_now_undos])), (p_now_lendings, .inr (2, [.int d_now_lendings_most, .ref p_now_lendings_cells, .int d_now_lendings_many])), (p_now_mounts, .inr (2, [.int d_now_mounts_most, .ref p_now_mounts_cells, .int d_now_mounts_many])), (p_now_mounts_cells, .inl (cI, 48, .inl d_now_mounts_cells)), (p_now_undos, .inr (2, [.int d_now_undos_most, .ref p_now_undos_cells, .int d_now_undos_many])), (p_now_undos_cells, .inl (cI, 48, .inl d_now_undos_cells))] : va_W) s.heap.size = A at hD ⊢
  have hA : ∀ q : Nat, s.heap.size ≤ q → A q := fun q h => by rw [← hAe]; exact Or.inr h
  have hS : va_S A s.heap s.heap [] := va_S.rf
  refine W_abs (fun Q hQ => ?_)
  have hl := lv_entry ([.ref p_this]) (n := 1) (Nat.le_of_ble_eq_true rfl)
  rw [lg_entry_eq]
  generalize (lg_sl ([.ref p_this]) ++ List.replicate (1 - (lg_sl ([.ref p_this])).length) Slot.unset).toArray = ls at hl ⊢
  have hl : lv_has ls 1 [(0, .ref p_this)] := hl
  rw [f_X5_undo] at hrun
  refine W_start (ws := [(p_this, .inr (5, [.ref p_text, .ref p_reader, .ref p_told, .ref p_draft, .ref p_now, .ref p_imageZero, .ref p_imageOne, .ref p_slots, .ref p_placesOf, .int d_keptImages, .long d_traced])), (p_now, .inr (0, [.ref p_now_mounts, .ref p_now_lendings, .ref p_now_log, .ref p_now_undos])), (p_now_lendings, .inr (2, [.int d_now_lendings_most, .ref p_now_lendings_cells, .int d_now_lendings_many])), (p_now_mounts, .inr (2, [.int d_now_mounts_most, .ref p_now_mounts_cells, .int d_now_mounts_many])), (p_now_mounts_cells, .inl (cI, 48, .inl d_now_mounts_cells)), (p_now_undos, .inr (2, [.int d_now_undos_most, .ref p_now_undos_cells, .int d_now_undos_many])), (p_now_undos_cells, .inl (cI, 48, .inl d_now_undos_cells))]) hP hS (fun H locs hP hS => ?_)
  have iwX0 : ∀ w ∈ wsX00, w ∈ wsX5_undo := by decide +kernel
  have iwX2 : ∀ w ∈ wsX20, w ∈ wsX5_undo := by decide +kernel
  have iwX5 : ∀ w ∈ wsX50, w ∈ wsX5_undo := by decide +kernel
  refine lv_aload_n hx hb dX5_undo_0 rfl (lv_at hl 0 rfl) ?_
  refine va_get (D := (dC, dI)) (ci := 5) (v := .ref p_now) (C := RX5) (T := TX5) (N := 11) hx hb hts iwX5 hown hK hP 0 rfl rfl 4 (by decide) (hts (.fieldLink RX5 36 "SkyListeners" "now" "LSkyListeners$Now;") (by decide +kernel)) (fun _ h9 => h9) rfl dX5_undo_1 ?_
  refine va_get (D := (dC, dI)) (ci := 0) (v := .ref p_now_undos) (C := RX0) (T := TX0) (N := 4) hx hb hts iwX0 hown hK hP 1 rfl rfl 3 (by decide) (hts (.fieldLink RX5 146 "SkyListeners$Now" "undos" "LSkyListeners$Rows;") (by decide +kernel)) (fun _ h9 => h9) rfl dX5_undo_4 ?_
  refine va_get (D := (dC, dI)) (ci := 2) (v := .int d_now_undos_many) (C := RX2) (T := TX2) (N := 3) hx hb hts iwX2 hown hK hP 5 rfl rfl 2 (by decide) (hts (.fieldLink RX5 136 "SkyListeners$Rows" "many" "I") (by decide +kernel)) (fun _ h9 => h9) rfl dX5_undo_7 ?_
  refine lv_if_ne (tgt := 16) hx hb dX5_undo_10 (by decide) (fun c_10 => ?_) (fun c_10 => ?_)
  · rw [if_neg c_10] at hrun
    refine lv_aload_n hx hb dX5_undo_16 rfl (lv_at hl 0 rfl) ?_
    refine va_get (D := (dC, dI)) (ci := 5) (v := .ref p_now) (C := RX5) (T := TX5) (N := 11) hx hb hts iwX5 hown hK hP 0 rfl rfl 4 (by decide) (hts (.fieldLink RX5 36 "SkyListeners" "now" "LSkyListeners$Now;") (by decide +kernel)) (fun _ h9 => h9) rfl dX5_undo_17 ?_
    have hPc : va_P (dC, dI) vwCl [(p_now, .inr (0, [.ref p_now_mounts, .ref p_now_lendings, .ref p_now_log, .ref p_now_undos])), (p_now_lendings, .inr (2, [.int d_now_lendings_most, .ref p_now_lendings_cells, .int d_now_lendings_many])), (p_now_mounts, .inr (2, [.int d_now_mounts_most, .ref p_now_mounts_cells, .int d_now_mounts_many])), (p_now_mounts_cells, .inl (cI, 48, .inl d_now_mounts_cells)), (p_now_undos, .inr (2, [.int d_now_undos_most, .ref p_now_undos_cells, .int d_now_undos_many])), (p_now_undos_cells, .inl (cI, 48, .inl d_now_undos_cells))] H := hP.sub [1, 2, 3, 4, 5, 6] rfl
    have hDc : va_D A [(p_now, .inr (0, [.ref p_now_mounts, .ref p_now_lendings, .ref p_now_log, .ref p_now_undos])), (p_now_lendings, .inr (2, [.int d_now_lendings_most, .ref p_now_lendings_cells, .int d_now_lendings_many])), (p_now_mounts, .inr (2, [.int d_now_mounts_most, .ref p_now_mounts_cells, .int d_now_mounts_many])), (p_now_mounts_cells, .inl (cI, 48, .inl d_now_mounts_cells)), (p_now_undos, .inr (2, [.int d_now_undos_most, .ref p_now_undos_cells, .int d_now_undos_many])), (p_now_undos_cells, .inl (cI, 48, .inl d_now_undos_cells))] := hD.sub [1, 2, 3, 4, 5, 6] (by decide) rfl
    have hFc := va_free (wc := [(p_now, .inr (0, [.ref p_now_mounts, .ref p_now_lendings, .ref p_now_log, .ref p_now_undos])), (p_now_lendings, .inr (2, [.int d_now_lendings_most, .ref p_now_lendings_cells, .int d_now_lendings_many])), (p_now_mounts, .inr (2, [.int d_now_mounts_most, .ref p_now_mounts_cells, .int d_now_mounts_many])), (p_now_mounts_cells, .inl (cI, 48, .inl d_now_mounts_cells)), (p_now_undos, .inr (2, [.int d_now_undos_most, .ref p_now_undos_cells, .int d_now_undos_many])), (p_now_undos_cells, .inl (cI, 48, .inl d_now_undos_cells))]) hD hS hA [1, 2, 3, 4, 5, 6] rfl
    refine va_callv (va_runV (As := []) (rest := []) ⟨hx, hb, hml, hown, hts⟩ (c_X0_takeBack l dC dI cI cZ H.size p_now_lendings p_now_lendings_cells p_now_log p_now_mounts p_now_mounts_cells p_now p_now_undos p_now_undos_cells d_now_lendings_most d_now_lendings_many d_now_mounts_most d_now_mounts_many d_now_mounts_cells d_now_undos_most d_now_undos_many d_now_undos_cells (f_X0_takeBack d_now_lendings_many d_now_mounts_many d_now_mounts_cells d_now_undos_many d_now_undos_cells) rfl) (cwV 0 hts gX5_undo_X0_takeBack rfl rfl rfl (by decide +kernel) ⟨Nat.le_of_ble_eq_true rfl, Nat.le_of_ble_eq_true rfl⟩) ⟨fun a U g mk q => ⟨q.1, PC.mv q.2⟩, va_recv hK hP (ci := 0) (q0 := 1) rfl rfl, fun U hU hW => ⟨rfl, PC.of hU hW hPc hK hDc hN⟩⟩ rfl rfl hl.1 rfl (lv_room (Nat.le_of_ble_eq_true rfl)) dX5_undo_20 ⟨Nat.zero_le _, Nat.zero_le _⟩) hS (fun q _ h => hFc q h) hFc (fun u t H1 locs ht hvm hw hB hz1 hk1 hS => ?_)
    obtain ⟨hP1, hD1⟩ := hB
    rw [ht] at hP1
    obtain ⟨hP, hD⟩ := va_join (wr := [(p_this, .inr (5, [.ref p_text, .ref p_reader, .ref p_told, .ref p_draft, .ref p_now, .ref p_imageZero, .ref p_imageOne, .ref p_slots, .ref p_placesOf, .int d_keptImages, .long d_traced]))]) (w1 := [(p_now, .inr (0, [.ref p_now_mounts, .ref p_now_lendings, .ref p_now_log, .ref p_now_undos])), (p_now_lendings, .inr (2, [.int d_now_lendings_most, .ref p_now_lendings_cells, .int ((f_X0_takeBack d_now_lendings_many d_now_mounts_many d_now_mounts_cells d_now_undos_many d_now_undos_cells).1)])), (p_now_mounts, .inr (2, [.int d_now_mounts_most, .ref p_now_mounts_cells, .int d_now_mounts_many])), (p_now_mounts_cells, .inl (cI, 48, .inl ((f_X0_takeBack d_now_lendings_many d_now_mounts_many d_now_mounts_cells d_now_undos_many d_now_undos_cells).2.1))), (p_now_undos, .inr (2, [.int d_now_undos_most, .ref p_now_undos_cells, .int ((f_X0_takeBack d_now_lendings_many d_now_mounts_many d_now_mounts_cells d_now_undos_many d_now_undos_cells).2.2)])), (p_now_undos_cells, .inl (cI, 48, .inl d_now_undos_cells))]) hP hD [1, 2, 3, 4, 5, 6] [0] rfl rfl (by decide) (by decide) hk1 hFc hP1 hD1
    have hP : va_P (dC, dI) vwCl [(p_this, .inr (5, [.ref p_text, .ref p_reader, .ref p_told, .ref p_draft, .ref p_now, .ref p_imageZero, .ref p_imageOne, .ref p_slots, .ref p_placesOf, .int d_keptImages, .long d_traced])), (p_now, .inr (0, [.ref p_now_mounts, .ref p_now_lendings, .ref p_now_log, .ref p_now_undos])), (p_now_lendings, .inr (2, [.int d_now_lendings_most, .ref p_now_lendings_cells, .int ((f_X0_takeBack d_now_lendings_many d_now_mounts_many d_now_mounts_cells d_now_undos_many d_now_undos_cells).1)])), (p_now_mounts, .inr (2, [.int d_now_mounts_most, .ref p_now_mounts_cells, .int d_now_mounts_many])), (p_now_mounts_cells, .inl (cI, 48, .inl ((f_X0_takeBack d_now_lendings_many d_now_mounts_many d_now_mounts_cells d_now_undos_many d_now_undos_cells).2.1))), (p_now_undos, .inr (2, [.int d_now_undos_most, .ref p_now_undos_cells, .int ((f_X0_takeBack d_now_lendings_many d_now_mounts_many d_now_mounts_cells d_now_undos_many d_now_undos_cells).2.2)])), (p_now_undos_cells, .inl (cI, 48, .inl d_now_undos_cells))] H1 := hP.sub [0, 1, 2, 3, 4, 5, 6] rfl
    have hD : va_D A [(p_this, .inr (5, [.ref p_text, .ref p_reader, .ref p_told, .ref p_draft, .ref p_now, .ref p_imageZero, .ref p_imageOne, .ref p_slots, .ref p_placesOf, .int d_keptImages, .long d_traced])), (p_now, .inr (0, [.ref p_now_mounts, .ref p_now_lendings, .ref p_now_log, .ref p_now_undos])), (p_now_lendings, .inr (2, [.int d_now_lendings_most, .ref p_now_lendings_cells, .int ((f_X0_takeBack d_now_lendings_many d_now_mounts_many d_now_mounts_cells d_now_undos_many d_now_undos_cells).1)])), (p_now_mounts, .inr (2, [.int d_now_mounts_most, .ref p_now_mounts_cells, .int d_now_mounts_many])), (p_now_mounts_cells, .inl (cI, 48, .inl ((f_X0_takeBack d_now_lendings_many d_now_mounts_many d_now_mounts_cells d_now_undos_many d_now_undos_cells).2.1))), (p_now_undos, .inr (2, [.int d_now_undos_most, .ref p_now_undos_cells, .int ((f_X0_takeBack d_now_lendings_many d_now_mounts_many d_now_mounts_cells d_now_undos_many d_now_undos_cells).2.2)])), (p_now_undos_cells, .inl (cI, 48, .inl d_now_undos_cells))] := hD.sub [0, 1, 2, 3, 4, 5, 6] (by decide) rfl
    clear hPc hDc hFc hk1 hz1 hP1 hD1 ht hvm
    generalize H1 = H at hP hS ⊢
    refine lv_aload_n hx hb dX5_undo_23 rfl (lv_at hl 0 rfl) ?_
    refine va_get (D := (dC, dI)) (ci := 5) (v := .ref p_now) (C := RX5) (T := TX5) (N := 11) hx hb hts iwX5 hown hK hP 0 rfl rfl 4 (by decide) (hts (.fieldLink RX5 36 "SkyListeners" "now" "LSkyListeners$Now;") (by decide +kernel)) (fun _ h9 => h9) rfl dX5_undo_24 ?_
    refine va_get (D := (dC, dI)) (ci := 0) (v := .ref p_now_undos) (C := RX0) (T := TX0) (N := 4) hx hb hts iwX0 hown hK hP 1 rfl rfl 3 (by decide) (hts (.fieldLink RX5 146 "SkyListeners$Now" "undos" "LSkyListeners$Rows;") (by decide +kernel)) (fun _ h9 => h9) rfl dX5_undo_27 ?_
    refine va_get (D := (dC, dI)) (ci := 2) (v := .int ((f_X0_takeBack d_now_lendings_many d_now_mounts_many d_now_mounts_cells d_now_undos_many d_now_undos_cells).2.2)) (C := RX2) (T := TX2) (N := 3) hx hb hts iwX2 hown hK hP 5 rfl rfl 2 (by decide) (hts (.fieldLink RX5 136 "SkyListeners$Rows" "many" "I") (by decide +kernel)) (fun _ h9 => h9) rfl dX5_undo_30 ?_
    have hrun := hrun
    subst hrun
    rw [hQ]
    exact W.iret (v := (f_X0_takeBack d_now_lendings_many d_now_mounts_many d_now_mounts_cells d_now_undos_many d_now_undos_cells).2.2) hx hb hr (fun t ht hW => ⟨⟨(f_X0_takeBack d_now_lendings_many d_now_mounts_many d_now_mounts_cells d_now_undos_many d_now_undos_cells).2.2, (), rfl, rfl, by rw [ht]; exact hP, hD⟩, hS.F ht⟩) hS.2.2 dX5_undo_33
  · rw [if_pos c_10] at hrun
    refine lv_bipush (v := (-2)) hx hb dX5_undo_13 (by decide) ?_
    have hrun := hrun
    subst hrun
    rw [hQ]
    exact W.iret (v := (-2)) hx hb hr (fun t ht hW => ⟨⟨(-2), (), rfl, rfl, by rw [ht]; exact hP, hD⟩, hS.F ht⟩) hS.2.2 dX5_undo_15
-- SkyListeners.areHours
def f_X5_areHours (x0 : Int32) (x1 : Int32) : Int32 := (if (f_X5_isHour x0) = 0 then (0) else (if (f_X5_isHour x1) = 0 then (0) else (if x1 < x0 then (0) else (1))))
theorem b_X5_areHours (x0 : Int32) (x1 : Int32) : f_X5_areHours x0 x1 = 0 ∨ f_X5_areHours x0 x1 = 1 := by unfold f_X5_areHours; first | (repeat' split) <;> first | exact Or.inl rfl | exact Or.inr rfl | exact b_X5_isHour ..
set_option maxHeartbeats 4000000 in
set_option maxRecDepth 100000 in
theorem c_X5_areHours (l : Launch) (dC : Nat → ClassId) (dI : Nat → Nat → Nat) (cI cZ : ClassId) (sz : Nat) (x0 : Int32) (x1 : Int32) (out : Int32) (hrun : f_X5_areHours x0 x1 = out) : Met l yX5_areHours wsX5_areHours ({ frames := 1, cells := 0, slots := 0, locals := 20 } : Room) (va_Pc [.int x0, .int x1] (PC dC dI cI cZ sz ([] : va_W))) (va_Qi (fun r (_ : Unit) => r = out) (fun _ t => va_P (dC, dI) vwCl [] t.heap ∧ va_D (va_A ([] : va_W) sz) []) (va_A ([] : va_W) sz)) 0 0 (va_A ([] : va_W) sz) := by
  refine Met.ofW (cc := cX5_areHours) (maxL := 2) (ret := (some .boolean)) (by decide) rfl ?_
  intro p e s m args below meth c s₁ B hml hv
  obtain ⟨rfl, hsz, hP, hK, hD0, hN⟩ := hv
  have hx := B.exec
  have hb := B.bytes
  have hr := B.returns
  have hts := atoms_spec (ws := wsX5_areHours) B.pre
  have hown : s.vm.findClass RX5 = some m.cls := findClass_of_methodNamed B.named
  have hlocks := B.notSynchronized
  subst hsz
  have hD := hD0.self (sz := s.heap.size)
  generalize hAe : va_A ([] : va_W) s.heap.size = A at hD ⊢
  have hA : ∀ q : Nat, s.heap.size ≤ q → A q := fun q h => by rw [← hAe]; exact Or.inr h
  have hS : va_S A s.heap s.heap [] := va_S.rf
  refine W_abs (fun Q hQ => ?_)
  have hl := lv_entry ([.int x0, .int x1]) (n := 2) (Nat.le_of_ble_eq_true rfl)
  rw [lg_entry_eq]
  generalize (lg_sl ([.int x0, .int x1]) ++ List.replicate (2 - (lg_sl ([.int x0, .int x1])).length) Slot.unset).toArray = ls at hl ⊢
  have hl : lv_has ls 2 [(0, .int x0), (1, .int x1)] := hl
  rw [f_X5_areHours] at hrun
  refine W_start (ws := []) hP hS (fun H locs hP hS => ?_)
  refine lv_iload_n hx hb dX5_areHours_0 rfl (lv_at hl 0 rfl) ?_
  have hPc : va_P (dC, dI) vwCl [] H := hP.sub [] rfl
  have hDc : va_D A [] := hD.sub [] (by decide) rfl
  have hFc := va_free (wc := []) hD hS hA [] rfl
  refine va_calli (va_runS (As := [.int x0]) (rest := []) ⟨hx, hb, hml, hown, hts⟩ (c_X5_isHour l dC dI cI cZ H.size x0 (f_X5_isHour x0) rfl) (va_cwS 1 hts gX5_areHours_X5_isHour rfl rfl rfl (by decide +kernel) ⟨Nat.le_of_ble_eq_true rfl, Nat.le_of_ble_eq_true rfl⟩) ⟨fun a U g mk q => ⟨q.1, PC.mv q.2⟩, fun U hU hW => ⟨rfl, PC.of hU hW hPc hK hDc hN⟩⟩ rfl rfl hl.1 rfl (lv_room (Nat.le_of_ble_eq_true rfl)) dX5_areHours_1 ⟨Nat.zero_le _, Nat.zero_le _⟩) hS (fun q _ h => hFc q h) hFc (fun r_1 u t H1 locs ht hvm hw hB hz1 hk1 hS => ?_)
  obtain ⟨hP1, hD1⟩ := hB
  try dsimp only at hw
  rw [hw]
  rw [ht] at hP1
  have hP : va_P (dC, dI) vwCl [] H1 := join_ro hP hD [] rfl hk1 hP1
  clear hPc hDc hFc hk1 hz1 hP1 hD1 ht hvm
  generalize H1 = H at hP hS ⊢
  refine lv_if_eq (tgt := 23) hx hb dX5_areHours_4 (by decide) (fun c_4 => ?_) (fun c_4 => ?_)
  · rw [if_pos c_4] at hrun
    refine lv_iconst (v := 0) hx hb dX5_areHours_23 (by decide) ?_
    have hrun := hrun
    subst hrun
    rw [hQ]
    exact W.zret (v := 0) (ty := .boolean) hx hb hr rfl (fun t ht hW => ⟨⟨0, (), rfl, rfl, by rw [ht]; exact hP, hD⟩, hS.F ht⟩) hS.2.2 dX5_areHours_24
  · rw [if_neg c_4] at hrun
    refine lv_iload_n hx hb dX5_areHours_7 rfl (lv_at hl 1 rfl) ?_
    have hPc : va_P (dC, dI) vwCl [] H := hP.sub [] rfl
    have hDc : va_D A [] := hD.sub [] (by decide) rfl
    have hFc := va_free (wc := []) hD hS hA [] rfl
    refine va_calli (va_runS (As := [.int x1]) (rest := []) ⟨hx, hb, hml, hown, hts⟩ (c_X5_isHour l dC dI cI cZ H.size x1 (f_X5_isHour x1) rfl) (va_cwS 1 hts gX5_areHours_X5_isHour rfl rfl rfl (by decide +kernel) ⟨Nat.le_of_ble_eq_true rfl, Nat.le_of_ble_eq_true rfl⟩) ⟨fun a U g mk q => ⟨q.1, PC.mv q.2⟩, fun U hU hW => ⟨rfl, PC.of hU hW hPc hK hDc hN⟩⟩ rfl rfl hl.1 rfl (lv_room (Nat.le_of_ble_eq_true rfl)) dX5_areHours_8 ⟨Nat.zero_le _, Nat.zero_le _⟩) hS (fun q _ h => hFc q h) hFc (fun r_8 u t H1 locs ht hvm hw hB hz1 hk1 hS => ?_)
    obtain ⟨hP1, hD1⟩ := hB
    try dsimp only at hw
    rw [hw]
    rw [ht] at hP1
    have hP : va_P (dC, dI) vwCl [] H1 := join_ro hP hD [] rfl hk1 hP1
    clear hPc hDc hFc hk1 hz1 hP1 hD1 ht hvm
    generalize H1 = H at hP hS ⊢
    refine lv_if_eq (tgt := 23) hx hb dX5_areHours_11 (by decide) (fun c_11 => ?_) (fun c_11 => ?_)
    · rw [if_pos c_11] at hrun
      refine lv_iconst (v := 0) hx hb dX5_areHours_23 (by decide) ?_
      have hrun := hrun
      subst hrun
      rw [hQ]
      exact W.zret (v := 0) (ty := .boolean) hx hb hr rfl (fun t ht hW => ⟨⟨0, (), rfl, rfl, by rw [ht]; exact hP, hD⟩, hS.F ht⟩) hS.2.2 dX5_areHours_24
    · rw [if_neg c_11] at hrun
      refine lv_iload_n hx hb dX5_areHours_14 rfl (lv_at hl 0 rfl) ?_
      refine lv_iload_n hx hb dX5_areHours_15 rfl (lv_at hl 1 rfl) ?_
      refine lv_icmp_gt (tgt := 23) hx hb dX5_areHours_16 (by decide) (fun c_16 => ?_) (fun c_16 => ?_)
      · rw [if_pos c_16] at hrun
        refine lv_iconst (v := 0) hx hb dX5_areHours_23 (by decide) ?_
        have hrun := hrun
        subst hrun
        rw [hQ]
        exact W.zret (v := 0) (ty := .boolean) hx hb hr rfl (fun t ht hW => ⟨⟨0, (), rfl, rfl, by rw [ht]; exact hP, hD⟩, hS.F ht⟩) hS.2.2 dX5_areHours_24
      · rw [if_neg c_16] at hrun
        refine lv_iconst (v := 1) hx hb dX5_areHours_19 (by decide) ?_
        refine lv_goto (tgt := 24) hx hb dX5_areHours_20 (by decide) ?_
        have hrun := hrun
        subst hrun
        rw [hQ]
        exact W.zret (v := 1) (ty := .boolean) hx hb hr rfl (fun t ht hW => ⟨⟨1, (), rfl, rfl, by rw [ht]; exact hP, hD⟩, hS.F ht⟩) hS.2.2 dX5_areHours_24
-- SkyListeners.countSlots
def f_X5_countSlots_X93 (K25 : Int32 → (Nat → Int32) → Option ((Nat → Int32))) (x1 : Int32) (x2 : Int32) (x3 : Int32) (d_now_mounts_many : Int32) (d_now_mounts_cells : Nat → Int32) (d_slots : Nat → Int32) : Option ((Nat → Int32)) := (K25 (x3 + 1) d_slots)
def f_X5_countSlots_L42 (K93 : (Nat → Int32) → Option ((Nat → Int32))) (x1 : Int32) (x2 : Int32) (x3 : Int32) (d_now_mounts_many : Int32) (d_now_mounts_cells : Nat → Int32) : Nat → Int32 → (Nat → Int32) → Option ((Nat → Int32))
  | 0, _, _ => none
  | n9 + 1, x4, d_slots => (if x2 < x4 then (K93 d_slots) else (if 24 ≤ x4 then (K93 d_slots) else (f_X5_countSlots_L42 K93 x1 x2 x3 d_now_mounts_many d_now_mounts_cells n9 (x4 + 1) (f_X5_put 8 d_slots (f_X0_placeSeen d_now_mounts_many d_now_mounts_cells x3 x4) ((f_X5_at 8 d_slots (f_X0_placeSeen d_now_mounts_many d_now_mounts_cells x3 x4)) + 1)))))
def f_X5_countSlots_L25 (x1 : Int32) (x2 : Int32) (d_now_mounts_many : Int32) (d_now_mounts_cells : Nat → Int32) : Nat → Int32 → (Nat → Int32) → Option ((Nat → Int32))
  | 0, _, _ => none
  | n9 + 1, x3, d_slots => (if d_now_mounts_many ≤ x3 then (some d_slots) else (f_X5_countSlots_L42 (f_X5_countSlots_X93 (f_X5_countSlots_L25  x1 x2 d_now_mounts_many d_now_mounts_cells n9) x1 x2 x3 d_now_mounts_many d_now_mounts_cells) x1 x2 x3 d_now_mounts_many d_now_mounts_cells FU x1 d_slots))
def f_X5_countSlots_X23 (x1 : Int32) (x2 : Int32) (d_now_mounts_many : Int32) (d_now_mounts_cells : Nat → Int32) (d_slots : Nat → Int32) : Option ((Nat → Int32)) := (f_X5_countSlots_L25 x1 x2 d_now_mounts_many d_now_mounts_cells FU 0 d_slots)
def f_X5_countSlots_L2 (K23 : (Nat → Int32) → Option ((Nat → Int32))) (x1 : Int32) (x2 : Int32) (d_now_mounts_many : Int32) (d_now_mounts_cells : Nat → Int32) : Nat → Int32 → (Nat → Int32) → Option ((Nat → Int32))
  | 0, _, _ => none
  | n9 + 1, x3, d_slots => (if 8 ≤ x3 then (K23 d_slots) else (f_X5_countSlots_L2 K23 x1 x2 d_now_mounts_many d_now_mounts_cells n9 (x3 + 1) (f_X5_put 8 d_slots x3 0)))
def f_X5_countSlots (d_now_mounts_many : Int32) (d_now_mounts_cells : Nat → Int32) (d_slots : Nat → Int32) (x1 : Int32) (x2 : Int32) : Option ((Nat → Int32)) := (f_X5_countSlots_L2 (f_X5_countSlots_X23 x1 x2 d_now_mounts_many d_now_mounts_cells) x1 x2 d_now_mounts_many d_now_mounts_cells FU 0 d_slots)
set_option maxHeartbeats 4000000 in
set_option maxRecDepth 100000 in
theorem c_X5_countSlots (l : Launch) (dC : Nat → ClassId) (dI : Nat → Nat → Nat) (cI cZ : ClassId) (sz : Nat) (p_draft p_imageOne p_imageZero p_now p_now_lendings p_now_log p_now_mounts p_now_mounts_cells p_now_undos p_placesOf p_reader p_slots p_text p_this p_told : Nat) (d_keptImages : Int32) (d_traced : Int64) (d_now_mounts_most : Int32) (d_now_mounts_many : Int32) (d_now_mounts_cells : Nat → Int32) (d_slots : Nat → Int32) (x1 : Int32) (x2 : Int32) (out : (Nat → Int32)) (hrun : f_X5_countSlots d_now_mounts_many d_now_mounts_cells d_slots x1 x2 = some out) : Met l yX5_countSlots wsX5_countSlots ({ frames := 3, cells := 0, slots := 0, locals := 66 } : Room) (va_Pc [.ref p_this, .int x1, .int x2] (PC dC dI cI cZ sz ([(p_this, .inr (5, [.ref p_text, .ref p_reader, .ref p_told, .ref p_draft, .ref p_now, .ref p_imageZero, .ref p_imageOne, .ref p_slots, .ref p_placesOf, .int d_keptImages, .long d_traced])), (p_now, .inr (0, [.ref p_now_mounts, .ref p_now_lendings, .ref p_now_log, .ref p_now_undos])), (p_now_mounts, .inr (2, [.int d_now_mounts_most, .ref p_now_mounts_cells, .int d_now_mounts_many])), (p_now_mounts_cells, .inl (cI, 48, .inl d_now_mounts_cells)), (p_slots, .inl (cI, 8, .inl d_slots))] : va_W))) (va_Qv (fun (_ : Unit) => True) (fun _ t => va_P (dC, dI) vwCl [(p_this, .inr (5, [.ref p_text, .ref p_reader, .ref p_told, .ref p_draft, .ref p_now, .ref p_imageZero, .ref p_imageOne, .ref p_slots, .ref p_placesOf, .int d_keptImages, .long d_traced])), (p_now, .inr (0, [.ref p_now_mounts, .ref p_now_lendings, .ref p_now_log, .ref p_now_undos])), (p_now_mounts, .inr (2, [.int d_now_mounts_most, .ref p_now_mounts_cells, .int d_now_mounts_many])), (p_now_mounts_cells, .inl (cI, 48, .inl d_now_mounts_cells)), (p_slots, .inl (cI, 8, .inl out))] t.heap ∧ va_D (va_A ([(p_this, .inr (5, [.ref p_text, .ref p_reader, .ref p_told, .ref p_draft, .ref p_now, .ref p_imageZero, .ref p_imageOne, .ref p_slots, .ref p_placesOf, .int d_keptImages, .long d_traced])), (p_now, .inr (0, [.ref p_now_mounts, .ref p_now_lendings, .ref p_now_log, .ref p_now_undos])), (p_now_mounts, .inr (2, [.int d_now_mounts_most, .ref p_now_mounts_cells, .int d_now_mounts_many])), (p_now_mounts_cells, .inl (cI, 48, .inl d_now_mounts_cells)), (p_slots, .inl (cI, 8, .inl d_slots))] : va_W) sz) [(p_this, .inr (5, [.ref p_text, .ref p_reader, .ref p_told, .ref p_draft, .ref p_now, .ref p_imageZero, .ref p_imageOne, .ref p_slots, .ref p_placesOf, .int d_keptImages, .long d_traced])), (p_now, .inr (0, [.ref p_now_mounts, .ref p_now_lendings, .ref p_now_log, .ref p_now_undos])), (p_now_mounts, .inr (2, [.int d_now_mounts_most, .ref p_now_mounts_cells, .int d_now_mounts_many])), (p_now_mounts_cells, .inl (cI, 48, .inl d_now_mounts_cells)), (p_slots, .inl (cI, 8, .inl out))]) (va_A ([(p_this, .inr (5, [.ref p_text, .ref p_reader, .ref p_told, .ref p_draft, .ref p_now, .ref p_imageZero, .ref p_imageOne, .ref p_slots, .ref p_placesOf, .int d_keptImages, .long d_traced])), (p_now, .inr (0, [.ref p_now_mounts, .ref p_now_lendings, .ref p_now_log, .ref p_now_undos])), (p_now_mounts, .inr (2, [.int d_now_mounts_most, .ref p_now_mounts_cells, .int d_now_mounts_many])), (p_now_mounts_cells, .inl (cI, 48, .inl d_now_mounts_cells)), (p_slots, .inl (cI, 8, .inl d_slots))] : va_W) sz)) 0 0 (va_A ([(p_this, .inr (5, [.ref p_text, .ref p_reader, .ref p_told, .ref p_draft, .ref p_now, .ref p_imageZero, .ref p_imageOne, .ref p_slots, .ref p_placesOf, .int d_keptImages, .long d_traced])), (p_now, .inr (0, [.ref p_now_mounts, .ref p_now_lendings, .ref p_now_log, .ref p_now_undos])), (p_now_mounts, .inr (2, [.int d_now_mounts_most, .ref p_now_mounts_cells, .int d_now_mounts_many])), (p_now_mounts_cells, .inl (cI, 48, .inl d_now_mounts_cells)), (p_slots, .inl (cI, 8, .inl d_slots))] : va_W) sz) := by
  refine Met.ofW (cc := cX5_countSlots) (maxL := 6) (ret := none) (by decide) rfl ?_
  intro p e s m args below meth c s₁ B hml hv
  obtain ⟨rfl, hsz, hP, hK, hD0, hN⟩ := hv
  have hx := B.exec
  have hb := B.bytes
  have hr := B.returns
  have hts := atoms_spec (ws := wsX5_countSlots) B.pre
  have hown : s.vm.findClass RX5 = some m.cls := findClass_of_methodNamed B.named
  have hlocks := B.notSynchronized
  subst hsz
  have hD := hD0.self (sz := s.heap.size)
  generalize hAe : va_A ([(p_this, .inr (5, [.ref p_text, .ref p_reader, .ref p_told, .ref p_draft, .ref p_now, .ref p_imageZero, .ref p_imageOne, .ref p_slots, .ref p_placesOf, .int d_keptImages, .long d_traced])), (p_now, .inr (0, [.ref p_now_mounts, .ref p_now_lendings, .ref p_now_log, .ref p_now_undos])), (p_now_mounts, .inr (2, [.int d_now_mounts_most, .ref p_now_mounts_cells, .int d_now_mounts_many])), (p_now_mounts_cells, .inl (cI, 48, .inl d_now_mounts_cells)), (p_slots, .inl (cI, 8, .inl d_slots))] : va_W) s.heap.size = A at hD ⊢
  have hA : ∀ q : Nat, s.heap.size ≤ q → A q := fun q h => by rw [← hAe]; exact Or.inr h
  have hS : va_S A s.heap s.heap [] := va_S.rf
  refine W_abs (fun Q hQ => ?_)
  have hl := lv_entry ([.ref p_this, .int x1, .int x2]) (n := 6) (Nat.le_of_ble_eq_true rfl)
  rw [lg_entry_eq]
  generalize (lg_sl ([.ref p_this, .int x1, .int x2]) ++ List.replicate (6 - (lg_sl ([.ref p_this, .int x1, .int x2])).length) Slot.unset).toArray = ls at hl ⊢
  have hl : lv_has ls 6 [(0, .ref p_this), (1, .int x1), (2, .int x2)] := hl
  rw [f_X5_countSlots] at hrun
  refine W_start (ws := [(p_this, .inr (5, [.ref p_text, .ref p_reader, .ref p_told, .ref p_draft, .ref p_now, .ref p_imageZero, .ref p_imageOne, .ref p_slots, .ref p_placesOf, .int d_keptImages, .long d_traced])), (p_now, .inr (0, [.ref p_now_mounts, .ref p_now_lendings, .ref p_now_log, .ref p_now_undos])), (p_now_mounts, .inr (2, [.int d_now_mounts_most, .ref p_now_mounts_cells, .int d_now_mounts_many])), (p_now_mounts_cells, .inl (cI, 48, .inl d_now_mounts_cells)), (p_slots, .inl (cI, 8, .inl d_slots))]) hP hS (fun H locs hP hS => ?_)
  have iwX0 : ∀ w ∈ wsX00, w ∈ wsX5_countSlots := by decide +kernel
  have iwX2 : ∀ w ∈ wsX20, w ∈ wsX5_countSlots := by decide +kernel
  have iwX5 : ∀ w ∈ wsX50, w ∈ wsX5_countSlots := by decide +kernel
  refine lv_iconst (v := 0) hx hb dX5_countSlots_0 (by decide) ?_
  refine lv_istore_n (lv' := [(3, .int 0), (0, .ref p_this), (1, .int x1), (2, .int x2)]) hx hb dX5_countSlots_1 rfl hl (by decide) rfl (fun ls hl => ?_)
  have X23 : ∀ (d_slots_23 : Nat → Int32) (H : Heap) (locs : List Loc), va_P (dC, dI) vwCl [(p_this, .inr (5, [.ref p_text, .ref p_reader, .ref p_told, .ref p_draft, .ref p_now, .ref p_imageZero, .ref p_imageOne, .ref p_slots, .ref p_placesOf, .int d_keptImages, .long d_traced])), (p_now, .inr (0, [.ref p_now_mounts, .ref p_now_lendings, .ref p_now_log, .ref p_now_undos])), (p_now_mounts, .inr (2, [.int d_now_mounts_most, .ref p_now_mounts_cells, .int d_now_mounts_many])), (p_now_mounts_cells, .inl (cI, 48, .inl d_now_mounts_cells)), (p_slots, .inl (cI, 8, .inl d_slots_23))] H → va_D A [(p_this, .inr (5, [.ref p_text, .ref p_reader, .ref p_told, .ref p_draft, .ref p_now, .ref p_imageZero, .ref p_imageOne, .ref p_slots, .ref p_placesOf, .int d_keptImages, .long d_traced])), (p_now, .inr (0, [.ref p_now_mounts, .ref p_now_lendings, .ref p_now_log, .ref p_now_undos])), (p_now_mounts, .inr (2, [.int d_now_mounts_most, .ref p_now_mounts_cells, .int d_now_mounts_many])), (p_now_mounts_cells, .inl (cI, 48, .inl d_now_mounts_cells)), (p_slots, .inl (cI, 8, .inl d_slots_23))] → va_S A s.heap H locs → ∀ ls : Array Slot, lv_has ls 6 [(0, .ref p_this), (1, .int x1), (2, .int x2)] → f_X5_countSlots_X23 x1 x2 d_now_mounts_many d_now_mounts_cells d_slots_23 = some out → W p l e ({ frames := 3, cells := 0, slots := 0, locals := 66 } : Room) s m ([.ref p_this, .int x1, .int x2] : List Value).toArray below meth c H locs 0 0 Q (F0 m 23 ls []) := by
    intro d_slots_23 H locs hP hD hS ls hl hrun
    rw [f_X5_countSlots_X23] at hrun
    refine lv_iconst (v := 0) hx hb dX5_countSlots_23 (by decide) ?_
    refine lv_istore_n (lv' := [(3, .int 0), (0, .ref p_this), (1, .int x1), (2, .int x2)]) hx hb dX5_countSlots_24 rfl hl (by decide) rfl (fun ls hl => ?_)
    have L25 : ∀ (n9_25 : Nat) (x3_25 : Int32) (d_slots_25 : Nat → Int32) (H : Heap) (locs : List Loc), va_P (dC, dI) vwCl [(p_this, .inr (5, [.ref p_text, .ref p_reader, .ref p_told, .ref p_draft, .ref p_now, .ref p_imageZero, .ref p_imageOne, .ref p_slots, .ref p_placesOf, .int d_keptImages, .long d_traced])), (p_now, .inr (0, [.ref p_now_mounts, .ref p_now_lendings, .ref p_now_log, .ref p_now_undos])), (p_now_mounts, .inr (2, [.int d_now_mounts_most, .ref p_now_mounts_cells, .int d_now_mounts_many])), (p_now_mounts_cells, .inl (cI, 48, .inl d_now_mounts_cells)), (p_slots, .inl (cI, 8, .inl d_slots_25))] H → va_D A [(p_this, .inr (5, [.ref p_text, .ref p_reader, .ref p_told, .ref p_draft, .ref p_now, .ref p_imageZero, .ref p_imageOne, .ref p_slots, .ref p_placesOf, .int d_keptImages, .long d_traced])), (p_now, .inr (0, [.ref p_now_mounts, .ref p_now_lendings, .ref p_now_log, .ref p_now_undos])), (p_now_mounts, .inr (2, [.int d_now_mounts_most, .ref p_now_mounts_cells, .int d_now_mounts_many])), (p_now_mounts_cells, .inl (cI, 48, .inl d_now_mounts_cells)), (p_slots, .inl (cI, 8, .inl d_slots_25))] → va_S A s.heap H locs → ∀ ls : Array Slot, lv_has ls 6 [(0, .ref p_this), (1, .int x1), (2, .int x2), (3, .int x3_25)] → f_X5_countSlots_L25 x1 x2 d_now_mounts_many d_now_mounts_cells n9_25 x3_25 d_slots_25 = some out → W p l e ({ frames := 3, cells := 0, slots := 0, locals := 66 } : Room) s m ([.ref p_this, .int x1, .int x2] : List Value).toArray below meth c H locs 0 0 Q (F0 m 25 ls []) := by
      intro n9_25
      induction n9_25 with
      | zero =>
        intro x3_25 d_slots_25 H locs hP hD hS ls hl hrun
        rw [f_X5_countSlots_L25] at hrun
        cases hrun
      | succ n9_25 ih25 =>
        intro x3_25 d_slots_25 H locs hP hD hS ls hl hrun
        rw [f_X5_countSlots_L25] at hrun
        refine lv_iload_n hx hb dX5_countSlots_25 rfl (lv_at hl 3 rfl) ?_
        refine lv_aload_n hx hb dX5_countSlots_26 rfl (lv_at hl 0 rfl) ?_
        refine va_get (D := (dC, dI)) (ci := 5) (v := .ref p_now) (C := RX5) (T := TX5) (N := 11) hx hb hts iwX5 hown hK hP 0 rfl rfl 4 (by decide) (hts (.fieldLink RX5 36 "SkyListeners" "now" "LSkyListeners$Now;") (by decide +kernel)) (fun _ h9 => h9) rfl dX5_countSlots_27 ?_
        refine va_get (D := (dC, dI)) (ci := 0) (v := .ref p_now_mounts) (C := RX0) (T := TX0) (N := 4) hx hb hts iwX0 hown hK hP 1 rfl rfl 0 (by decide) (hts (.fieldLink RX5 115 "SkyListeners$Now" "mounts" "LSkyListeners$Rows;") (by decide +kernel)) (fun _ h9 => h9) rfl dX5_countSlots_30 ?_
        refine va_get (D := (dC, dI)) (ci := 2) (v := .int d_now_mounts_many) (C := RX2) (T := TX2) (N := 3) hx hb hts iwX2 hown hK hP 2 rfl rfl 2 (by decide) (hts (.fieldLink RX5 136 "SkyListeners$Rows" "many" "I") (by decide +kernel)) (fun _ h9 => h9) rfl dX5_countSlots_33 ?_
        refine lv_icmp_ge (tgt := 99) hx hb dX5_countSlots_36 (by decide) (fun c_36 => ?_) (fun c_36 => ?_)
        · rw [if_pos c_36] at hrun
          have hrun := Option.some.inj hrun
          subst hrun
          rw [hQ]
          exact W.vret hx hb hr (fun t ht hW => ⟨⟨(), rfl, trivial, by rw [ht]; exact hP, hD⟩, hS.F ht⟩) hS.2.2 dX5_countSlots_99
        · rw [if_neg c_36] at hrun
          refine lv_iload_n hx hb dX5_countSlots_39 rfl (lv_at hl 1 rfl) ?_
          refine lv_istore (lv' := [(4, .int x1), (0, .ref p_this), (1, .int x1), (2, .int x2), (3, .int x3_25)]) hx hb dX5_countSlots_40 hl (by decide) rfl (fun ls hl => ?_)
          have X93 : ∀ (d_slots_93 : Nat → Int32) (H : Heap) (locs : List Loc), va_P (dC, dI) vwCl [(p_this, .inr (5, [.ref p_text, .ref p_reader, .ref p_told, .ref p_draft, .ref p_now, .ref p_imageZero, .ref p_imageOne, .ref p_slots, .ref p_placesOf, .int d_keptImages, .long d_traced])), (p_now, .inr (0, [.ref p_now_mounts, .ref p_now_lendings, .ref p_now_log, .ref p_now_undos])), (p_now_mounts, .inr (2, [.int d_now_mounts_most, .ref p_now_mounts_cells, .int d_now_mounts_many])), (p_now_mounts_cells, .inl (cI, 48, .inl d_now_mounts_cells)), (p_slots, .inl (cI, 8, .inl d_slots_93))] H → va_D A [(p_this, .inr (5, [.ref p_text, .ref p_reader, .ref p_told, .ref p_draft, .ref p_now, .ref p_imageZero, .ref p_imageOne, .ref p_slots, .ref p_placesOf, .int d_keptImages, .long d_traced])), (p_now, .inr (0, [.ref p_now_mounts, .ref p_now_lendings, .ref p_now_log, .ref p_now_undos])), (p_now_mounts, .inr (2, [.int d_now_mounts_most, .ref p_now_mounts_cells, .int d_now_mounts_many])), (p_now_mounts_cells, .inl (cI, 48, .inl d_now_mounts_cells)), (p_slots, .inl (cI, 8, .inl d_slots_93))] → va_S A s.heap H locs → ∀ ls : Array Slot, lv_has ls 6 [(0, .ref p_this), (1, .int x1), (2, .int x2), (3, .int x3_25)] → f_X5_countSlots_X93 (f_X5_countSlots_L25 x1 x2 d_now_mounts_many d_now_mounts_cells n9_25) x1 x2 x3_25 d_now_mounts_many d_now_mounts_cells d_slots_93 = some out → W p l e ({ frames := 3, cells := 0, slots := 0, locals := 66 } : Room) s m ([.ref p_this, .int x1, .int x2] : List Value).toArray below meth c H locs 0 0 Q (F0 m 93 ls []) := by
            intro d_slots_93 H locs hP hD hS ls hl hrun
            rw [f_X5_countSlots_X93] at hrun
            refine lv_iinc (v := x3_25 + 1) (lv' := [(3, .int (x3_25 + 1)), (0, .ref p_this), (1, .int x1), (2, .int x2)]) hx hb dX5_countSlots_93 hl (k := 3) rfl rfl (by decide) rfl (fun ls hl => ?_)
            refine lv_goto (tgt := 25) hx hb dX5_countSlots_96 (by decide) ?_
            exact ih25 (x3_25 + 1) d_slots_93 H locs hP hD hS ls (lv_sub hl [1, 2, 3, 0] rfl) hrun
          have L42 : ∀ (n9_42 : Nat) (x4_42 : Int32) (d_slots_42 : Nat → Int32) (H : Heap) (locs : List Loc), va_P (dC, dI) vwCl [(p_this, .inr (5, [.ref p_text, .ref p_reader, .ref p_told, .ref p_draft, .ref p_now, .ref p_imageZero, .ref p_imageOne, .ref p_slots, .ref p_placesOf, .int d_keptImages, .long d_traced])), (p_now, .inr (0, [.ref p_now_mounts, .ref p_now_lendings, .ref p_now_log, .ref p_now_undos])), (p_now_mounts, .inr (2, [.int d_now_mounts_most, .ref p_now_mounts_cells, .int d_now_mounts_many])), (p_now_mounts_cells, .inl (cI, 48, .inl d_now_mounts_cells)), (p_slots, .inl (cI, 8, .inl d_slots_42))] H → va_D A [(p_this, .inr (5, [.ref p_text, .ref p_reader, .ref p_told, .ref p_draft, .ref p_now, .ref p_imageZero, .ref p_imageOne, .ref p_slots, .ref p_placesOf, .int d_keptImages, .long d_traced])), (p_now, .inr (0, [.ref p_now_mounts, .ref p_now_lendings, .ref p_now_log, .ref p_now_undos])), (p_now_mounts, .inr (2, [.int d_now_mounts_most, .ref p_now_mounts_cells, .int d_now_mounts_many])), (p_now_mounts_cells, .inl (cI, 48, .inl d_now_mounts_cells)), (p_slots, .inl (cI, 8, .inl d_slots_42))] → va_S A s.heap H locs → ∀ ls : Array Slot, lv_has ls 6 [(0, .ref p_this), (1, .int x1), (2, .int x2), (3, .int x3_25), (4, .int x4_42)] → f_X5_countSlots_L42 (f_X5_countSlots_X93 (f_X5_countSlots_L25 x1 x2 d_now_mounts_many d_now_mounts_cells n9_25) x1 x2 x3_25 d_now_mounts_many d_now_mounts_cells) x1 x2 x3_25 d_now_mounts_many d_now_mounts_cells n9_42 x4_42 d_slots_42 = some out → W p l e ({ frames := 3, cells := 0, slots := 0, locals := 66 } : Room) s m ([.ref p_this, .int x1, .int x2] : List Value).toArray below meth c H locs 0 0 Q (F0 m 42 ls []) := by
            intro n9_42
            induction n9_42 with
            | zero =>
              intro x4_42 d_slots_42 H locs hP hD hS ls hl hrun
              rw [f_X5_countSlots_L42] at hrun
              cases hrun
            | succ n9_42 ih42 =>
              intro x4_42 d_slots_42 H locs hP hD hS ls hl hrun
              rw [f_X5_countSlots_L42] at hrun
              refine lv_iload hx hb dX5_countSlots_42 (lv_at hl 4 rfl) ?_
              refine lv_iload_n hx hb dX5_countSlots_44 rfl (lv_at hl 2 rfl) ?_
              refine lv_icmp_gt (tgt := 93) hx hb dX5_countSlots_45 (by decide) (fun c_45 => ?_) (fun c_45 => ?_)
              · rw [if_pos c_45] at hrun
                exact X93 d_slots_42 H locs hP hD hS ls (lv_sub hl [0, 1, 2, 3] rfl) hrun
              · rw [if_neg c_45] at hrun
                refine lv_iload hx hb dX5_countSlots_48 (lv_at hl 4 rfl) ?_
                refine lv_bipush (v := 24) hx hb dX5_countSlots_50 (by decide) ?_
                refine lv_icmp_ge (tgt := 93) hx hb dX5_countSlots_52 (by decide) (fun c_52 => ?_) (fun c_52 => ?_)
                · rw [if_pos c_52] at hrun
                  exact X93 d_slots_42 H locs hP hD hS ls (lv_sub hl [0, 1, 2, 3] rfl) hrun
                · rw [if_neg c_52] at hrun
                  refine lv_aload_n hx hb dX5_countSlots_55 rfl (lv_at hl 0 rfl) ?_
                  refine va_get (D := (dC, dI)) (ci := 5) (v := .ref p_now) (C := RX5) (T := TX5) (N := 11) hx hb hts iwX5 hown hK hP 0 rfl rfl 4 (by decide) (hts (.fieldLink RX5 36 "SkyListeners" "now" "LSkyListeners$Now;") (by decide +kernel)) (fun _ h9 => h9) rfl dX5_countSlots_56 ?_
                  refine lv_iload_n hx hb dX5_countSlots_59 rfl (lv_at hl 3 rfl) ?_
                  refine lv_iload hx hb dX5_countSlots_60 (lv_at hl 4 rfl) ?_
                  have hPc : va_P (dC, dI) vwCl [(p_now, .inr (0, [.ref p_now_mounts, .ref p_now_lendings, .ref p_now_log, .ref p_now_undos])), (p_now_mounts, .inr (2, [.int d_now_mounts_most, .ref p_now_mounts_cells, .int d_now_mounts_many])), (p_now_mounts_cells, .inl (cI, 48, .inl d_now_mounts_cells))] H := hP.sub [1, 2, 3] rfl
                  have hDc : va_D A [(p_now, .inr (0, [.ref p_now_mounts, .ref p_now_lendings, .ref p_now_log, .ref p_now_undos])), (p_now_mounts, .inr (2, [.int d_now_mounts_most, .ref p_now_mounts_cells, .int d_now_mounts_many])), (p_now_mounts_cells, .inl (cI, 48, .inl d_now_mounts_cells))] := hD.sub [1, 2, 3] (by decide) rfl
                  have hFc := va_free (wc := [(p_now, .inr (0, [.ref p_now_mounts, .ref p_now_lendings, .ref p_now_log, .ref p_now_undos])), (p_now_mounts, .inr (2, [.int d_now_mounts_most, .ref p_now_mounts_cells, .int d_now_mounts_many])), (p_now_mounts_cells, .inl (cI, 48, .inl d_now_mounts_cells))]) hD hS hA [1, 2, 3] rfl
                  refine va_calli (va_runV (As := [.int x3_25, .int x4_42]) (rest := []) ⟨hx, hb, hml, hown, hts⟩ (c_X0_placeSeen l dC dI cI cZ H.size p_now_lendings p_now_log p_now_mounts p_now_mounts_cells p_now p_now_undos d_now_mounts_most d_now_mounts_many d_now_mounts_cells x3_25 x4_42 (f_X0_placeSeen d_now_mounts_many d_now_mounts_cells x3_25 x4_42) rfl) (cwV 2 hts gX5_countSlots_X0_placeSeen rfl rfl rfl (by decide +kernel) ⟨Nat.le_of_ble_eq_true rfl, Nat.le_of_ble_eq_true rfl⟩) ⟨fun a U g mk q => ⟨q.1, PC.mv q.2⟩, va_recv hK hP (ci := 0) (q0 := 1) rfl rfl, fun U hU hW => ⟨rfl, PC.of hU hW hPc hK hDc hN⟩⟩ rfl rfl hl.1 rfl (lv_room (Nat.le_of_ble_eq_true rfl)) dX5_countSlots_62 ⟨Nat.zero_le _, Nat.zero_le _⟩) hS (fun q _ h => hFc q h) hFc (fun r_62 u t H1 locs ht hvm hw hB hz1 hk1 hS => ?_)
                  obtain ⟨hP1, hD1⟩ := hB
                  try dsimp only at hw
                  rw [hw]
                  rw [ht] at hP1
                  have hP : va_P (dC, dI) vwCl [(p_this, .inr (5, [.ref p_text, .ref p_reader, .ref p_told, .ref p_draft, .ref p_now, .ref p_imageZero, .ref p_imageOne, .ref p_slots, .ref p_placesOf, .int d_keptImages, .long d_traced])), (p_now, .inr (0, [.ref p_now_mounts, .ref p_now_lendings, .ref p_now_log, .ref p_now_undos])), (p_now_mounts, .inr (2, [.int d_now_mounts_most, .ref p_now_mounts_cells, .int d_now_mounts_many])), (p_now_mounts_cells, .inl (cI, 48, .inl d_now_mounts_cells)), (p_slots, .inl (cI, 8, .inl d_slots_42))] H1 := join_ro hP hD [1, 2, 3] rfl hk1 hP1
                  clear hPc hDc hFc hk1 hz1 hP1 hD1 ht hvm
                  generalize H1 = H at hP hS ⊢
                  refine lv_istore (lv' := [(5, .int (f_X0_placeSeen d_now_mounts_many d_now_mounts_cells x3_25 x4_42)), (0, .ref p_this), (1, .int x1), (2, .int x2), (3, .int x3_25), (4, .int x4_42)]) hx hb dX5_countSlots_65 hl (by decide) rfl (fun ls hl => ?_)
                  refine lv_aload_n hx hb dX5_countSlots_67 rfl (lv_at hl 1 rfl) ?_
                  refine va_get (D := (dC, dI)) (ci := 5) (v := .ref p_slots) (C := RX5) (T := TX5) (N := 11) hx hb hts iwX5 hown hK hP 0 rfl rfl 7 (by decide) (hts (.fieldLink RX5 46 "SkyListeners" "slots" "[I") (by decide +kernel)) (fun _ h9 => h9) rfl dX5_countSlots_68 ?_
                  refine lv_iload hx hb dX5_countSlots_71 (lv_at hl 0 rfl) ?_
                  refine lv_aload_n hx hb dX5_countSlots_73 rfl (lv_at hl 1 rfl) ?_
                  refine va_get (D := (dC, dI)) (ci := 5) (v := .ref p_slots) (C := RX5) (T := TX5) (N := 11) hx hb hts iwX5 hown hK hP 0 rfl rfl 7 (by decide) (hts (.fieldLink RX5 46 "SkyListeners" "slots" "[I") (by decide +kernel)) (fun _ h9 => h9) rfl dX5_countSlots_74 ?_
                  refine lv_iload hx hb dX5_countSlots_77 (lv_at hl 0 rfl) ?_
                  have hPc : va_P (dC, dI) vwCl [(p_slots, .inl (cI, 8, .inl d_slots_42))] H := hP.sub [4] rfl
                  have hDc : va_D A [(p_slots, .inl (cI, 8, .inl d_slots_42))] := hD.sub [4] (by decide) rfl
                  have hFc := va_free (wc := [(p_slots, .inl (cI, 8, .inl d_slots_42))]) hD hS hA [4] rfl
                  refine va_calli (va_runS (As := [.ref p_slots, .int (f_X0_placeSeen d_now_mounts_many d_now_mounts_cells x3_25 x4_42)]) (rest := [.int (f_X0_placeSeen d_now_mounts_many d_now_mounts_cells x3_25 x4_42), .ref p_slots]) ⟨hx, hb, hml, hown, hts⟩ (c_X5_at l dC dI cI cZ H.size p_slots 8 d_slots_42 (f_X0_placeSeen d_now_mounts_many d_now_mounts_cells x3_25 x4_42) (by decide) (f_X5_at 8 d_slots_42 (f_X0_placeSeen d_now_mounts_many d_now_mounts_cells x3_25 x4_42)) rfl) (va_cwS 2 hts gX5_countSlots_X5_at rfl rfl rfl (by decide +kernel) ⟨Nat.le_of_ble_eq_true rfl, Nat.le_of_ble_eq_true rfl⟩) ⟨fun a U g mk q => ⟨q.1, PC.mv q.2⟩, fun U hU hW => ⟨rfl, PC.of hU hW hPc hK hDc hN⟩⟩ rfl rfl hl.1 rfl (lv_room (Nat.le_of_ble_eq_true rfl)) dX5_countSlots_79 ⟨Nat.zero_le _, Nat.zero_le _⟩) hS (fun q _ h => hFc q h) hFc (fun r_79 u t H1 locs ht hvm hw hB hz1 hk1 hS => ?_)
                  obtain ⟨hP1, hD1⟩ := hB
                  try dsimp only at hw
                  rw [hw]
                  rw [ht] at hP1
                  have hP : va_P (dC, dI) vwCl [(p_this, .inr (5, [.ref p_text, .ref p_reader, .ref p_told, .ref p_draft, .ref p_now, .ref p_imageZero, .ref p_imageOne, .ref p_slots, .ref p_placesOf, .int d_keptImages, .long d_traced])), (p_now, .inr (0, [.ref p_now_mounts, .ref p_now_lendings, .ref p_now_log, .ref p_now_undos])), (p_now_mounts, .inr (2, [.int d_now_mounts_most, .ref p_now_mounts_cells, .int d_now_mounts_many])), (p_now_mounts_cells, .inl (cI, 48, .inl d_now_mounts_cells)), (p_slots, .inl (cI, 8, .inl d_slots_42))] H1 := join_ro hP hD [4] rfl hk1 hP1
                  clear hPc hDc hFc hk1 hz1 hP1 hD1 ht hvm
                  generalize H1 = H at hP hS ⊢
                  refine lv_iconst (v := 1) hx hb dX5_countSlots_82 (by decide) ?_
                  refine lv_iadd hx hb dX5_countSlots_83 ?_
                  have hPc : va_P (dC, dI) vwCl [(p_slots, .inl (cI, 8, .inl d_slots_42))] H := hP.sub [4] rfl
                  have hDc : va_D A [(p_slots, .inl (cI, 8, .inl d_slots_42))] := hD.sub [4] (by decide) rfl
                  have hFc := va_free (wc := [(p_slots, .inl (cI, 8, .inl d_slots_42))]) hD hS hA [4] rfl
                  refine va_callv (va_runS (As := [.ref p_slots, .int (f_X0_placeSeen d_now_mounts_many d_now_mounts_cells x3_25 x4_42), .int ((f_X5_at 8 d_slots_42 (f_X0_placeSeen d_now_mounts_many d_now_mounts_cells x3_25 x4_42)) + 1)]) (rest := []) ⟨hx, hb, hml, hown, hts⟩ (c_X5_put l dC dI cI cZ H.size p_slots 8 d_slots_42 (f_X0_placeSeen d_now_mounts_many d_now_mounts_cells x3_25 x4_42) ((f_X5_at 8 d_slots_42 (f_X0_placeSeen d_now_mounts_many d_now_mounts_cells x3_25 x4_42)) + 1) (by decide) (f_X5_put 8 d_slots_42 (f_X0_placeSeen d_now_mounts_many d_now_mounts_cells x3_25 x4_42) ((f_X5_at 8 d_slots_42 (f_X0_placeSeen d_now_mounts_many d_now_mounts_cells x3_25 x4_42)) + 1)) rfl) (va_cwS 3 hts gX5_countSlots_X5_put rfl rfl rfl (by decide +kernel) ⟨Nat.le_of_ble_eq_true rfl, Nat.le_of_ble_eq_true rfl⟩) ⟨fun a U g mk q => ⟨q.1, PC.mv q.2⟩, fun U hU hW => ⟨rfl, PC.of hU hW hPc hK hDc hN⟩⟩ rfl rfl hl.1 rfl (lv_room (Nat.le_of_ble_eq_true rfl)) dX5_countSlots_84 ⟨Nat.zero_le _, Nat.zero_le _⟩) hS (fun q _ h => hFc q h) hFc (fun u t H1 locs ht hvm hw hB hz1 hk1 hS => ?_)
                  obtain ⟨hP1, hD1⟩ := hB
                  rw [ht] at hP1
                  obtain ⟨hP, hD⟩ := va_join (wr := [(p_this, .inr (5, [.ref p_text, .ref p_reader, .ref p_told, .ref p_draft, .ref p_now, .ref p_imageZero, .ref p_imageOne, .ref p_slots, .ref p_placesOf, .int d_keptImages, .long d_traced])), (p_now, .inr (0, [.ref p_now_mounts, .ref p_now_lendings, .ref p_now_log, .ref p_now_undos])), (p_now_mounts, .inr (2, [.int d_now_mounts_most, .ref p_now_mounts_cells, .int d_now_mounts_many])), (p_now_mounts_cells, .inl (cI, 48, .inl d_now_mounts_cells))]) (w1 := [(p_slots, .inl (cI, 8, .inl (f_X5_put 8 d_slots_42 (f_X0_placeSeen d_now_mounts_many d_now_mounts_cells x3_25 x4_42) ((f_X5_at 8 d_slots_42 (f_X0_placeSeen d_now_mounts_many d_now_mounts_cells x3_25 x4_42)) + 1))))]) hP hD [4] [0, 1, 2, 3] rfl rfl (by decide) (by decide) hk1 hFc hP1 hD1
                  have hP : va_P (dC, dI) vwCl [(p_this, .inr (5, [.ref p_text, .ref p_reader, .ref p_told, .ref p_draft, .ref p_now, .ref p_imageZero, .ref p_imageOne, .ref p_slots, .ref p_placesOf, .int d_keptImages, .long d_traced])), (p_now, .inr (0, [.ref p_now_mounts, .ref p_now_lendings, .ref p_now_log, .ref p_now_undos])), (p_now_mounts, .inr (2, [.int d_now_mounts_most, .ref p_now_mounts_cells, .int d_now_mounts_many])), (p_now_mounts_cells, .inl (cI, 48, .inl d_now_mounts_cells)), (p_slots, .inl (cI, 8, .inl (f_X5_put 8 d_slots_42 (f_X0_placeSeen d_now_mounts_many d_now_mounts_cells x3_25 x4_42) ((f_X5_at 8 d_slots_42 (f_X0_placeSeen d_now_mounts_many d_now_mounts_cells x3_25 x4_42)) + 1))))] H1 := hP.sub [0, 1, 2, 3, 4] rfl
                  have hD : va_D A [(p_this, .inr (5, [.ref p_text, .ref p_reader, .ref p_told, .ref p_draft, .ref p_now, .ref p_imageZero, .ref p_imageOne, .ref p_slots, .ref p_placesOf, .int d_keptImages, .long d_traced])), (p_now, .inr (0, [.ref p_now_mounts, .ref p_now_lendings, .ref p_now_log, .ref p_now_undos])), (p_now_mounts, .inr (2, [.int d_now_mounts_most, .ref p_now_mounts_cells, .int d_now_mounts_many])), (p_now_mounts_cells, .inl (cI, 48, .inl d_now_mounts_cells)), (p_slots, .inl (cI, 8, .inl (f_X5_put 8 d_slots_42 (f_X0_placeSeen d_now_mounts_many d_now_mounts_cells x3_25 x4_42) ((f_X5_at 8 d_slots_42 (f_X0_placeSeen d_now_mounts_many d_now_mounts_cells x3_25 x4_42)) + 1))))] := hD.sub [0, 1, 2, 3, 4] (by decide) rfl
                  clear hPc hDc hFc hk1 hz1 hP1 hD1 ht hvm
                  generalize H1 = H at hP hS ⊢
                  refine lv_iinc (v := x4_42 + 1) (lv' := [(4, .int (x4_42 + 1)), (5, .int (f_X0_placeSeen d_now_mounts_many d_now_mounts_cells x3_25 x4_42)), (0, .ref p_this), (1, .int x1), (2, .int x2), (3, .int x3_25)]) hx hb dX5_countSlots_87 hl (k := 5) rfl rfl (by decide) rfl (fun ls hl => ?_)
                  refine lv_goto (tgt := 42) hx hb dX5_countSlots_90 (by decide) ?_
                  exact ih42 (x4_42 + 1) (f_X5_put 8 d_slots_42 (f_X0_placeSeen d_now_mounts_many d_now_mounts_cells x3_25 x4_42) ((f_X5_at 8 d_slots_42 (f_X0_placeSeen d_now_mounts_many d_now_mounts_cells x3_25 x4_42)) + 1)) H locs hP hD hS ls (lv_sub hl [2, 3, 4, 5, 0] rfl) hrun
          exact L42 FU x1 d_slots_25 H locs hP hD hS ls (lv_sub hl [1, 2, 3, 4, 0] rfl) hrun
    exact L25 FU 0 d_slots_23 H locs hP hD hS ls (lv_sub hl [1, 2, 3, 0] rfl) hrun
  have L2 : ∀ (n9_2 : Nat) (x3_2 : Int32) (d_slots_2 : Nat → Int32) (H : Heap) (locs : List Loc), va_P (dC, dI) vwCl [(p_this, .inr (5, [.ref p_text, .ref p_reader, .ref p_told, .ref p_draft, .ref p_now, .ref p_imageZero, .ref p_imageOne, .ref p_slots, .ref p_placesOf, .int d_keptImages, .long d_traced])), (p_now, .inr (0, [.ref p_now_mounts, .ref p_now_lendings, .ref p_now_log, .ref p_now_undos])), (p_now_mounts, .inr (2, [.int d_now_mounts_most, .ref p_now_mounts_cells, .int d_now_mounts_many])), (p_now_mounts_cells, .inl (cI, 48, .inl d_now_mounts_cells)), (p_slots, .inl (cI, 8, .inl d_slots_2))] H → va_D A [(p_this, .inr (5, [.ref p_text, .ref p_reader, .ref p_told, .ref p_draft, .ref p_now, .ref p_imageZero, .ref p_imageOne, .ref p_slots, .ref p_placesOf, .int d_keptImages, .long d_traced])), (p_now, .inr (0, [.ref p_now_mounts, .ref p_now_lendings, .ref p_now_log, .ref p_now_undos])), (p_now_mounts, .inr (2, [.int d_now_mounts_most, .ref p_now_mounts_cells, .int d_now_mounts_many])), (p_now_mounts_cells, .inl (cI, 48, .inl d_now_mounts_cells)), (p_slots, .inl (cI, 8, .inl d_slots_2))] → va_S A s.heap H locs → ∀ ls : Array Slot, lv_has ls 6 [(0, .ref p_this), (1, .int x1), (2, .int x2), (3, .int x3_2)] → f_X5_countSlots_L2 (f_X5_countSlots_X23 x1 x2 d_now_mounts_many d_now_mounts_cells) x1 x2 d_now_mounts_many d_now_mounts_cells n9_2 x3_2 d_slots_2 = some out → W p l e ({ frames := 3, cells := 0, slots := 0, locals := 66 } : Room) s m ([.ref p_this, .int x1, .int x2] : List Value).toArray below meth c H locs 0 0 Q (F0 m 2 ls []) := by
    intro n9_2
    induction n9_2 with
    | zero =>
      intro x3_2 d_slots_2 H locs hP hD hS ls hl hrun
      rw [f_X5_countSlots_L2] at hrun
      cases hrun
    | succ n9_2 ih2 =>
      intro x3_2 d_slots_2 H locs hP hD hS ls hl hrun
      rw [f_X5_countSlots_L2] at hrun
      refine lv_iload_n hx hb dX5_countSlots_2 rfl (lv_at hl 3 rfl) ?_
      refine lv_bipush (v := 8) hx hb dX5_countSlots_3 (by decide) ?_
      refine lv_icmp_ge (tgt := 23) hx hb dX5_countSlots_5 (by decide) (fun c_5 => ?_) (fun c_5 => ?_)
      · rw [if_pos c_5] at hrun
        exact X23 d_slots_2 H locs hP hD hS ls (lv_sub hl [0, 1, 2] rfl) hrun
      · rw [if_neg c_5] at hrun
        refine lv_aload_n hx hb dX5_countSlots_8 rfl (lv_at hl 0 rfl) ?_
        refine va_get (D := (dC, dI)) (ci := 5) (v := .ref p_slots) (C := RX5) (T := TX5) (N := 11) hx hb hts iwX5 hown hK hP 0 rfl rfl 7 (by decide) (hts (.fieldLink RX5 46 "SkyListeners" "slots" "[I") (by decide +kernel)) (fun _ h9 => h9) rfl dX5_countSlots_9 ?_
        refine lv_iload_n hx hb dX5_countSlots_12 rfl (lv_at hl 3 rfl) ?_
        refine lv_iconst (v := 0) hx hb dX5_countSlots_13 (by decide) ?_
        have hPc : va_P (dC, dI) vwCl [(p_slots, .inl (cI, 8, .inl d_slots_2))] H := hP.sub [4] rfl
        have hDc : va_D A [(p_slots, .inl (cI, 8, .inl d_slots_2))] := hD.sub [4] (by decide) rfl
        have hFc := va_free (wc := [(p_slots, .inl (cI, 8, .inl d_slots_2))]) hD hS hA [4] rfl
        refine va_callv (va_runS (As := [.ref p_slots, .int x3_2, .int 0]) (rest := []) ⟨hx, hb, hml, hown, hts⟩ (c_X5_put l dC dI cI cZ H.size p_slots 8 d_slots_2 x3_2 0 (by decide) (f_X5_put 8 d_slots_2 x3_2 0) rfl) (va_cwS 3 hts gX5_countSlots_X5_put rfl rfl rfl (by decide +kernel) ⟨Nat.le_of_ble_eq_true rfl, Nat.le_of_ble_eq_true rfl⟩) ⟨fun a U g mk q => ⟨q.1, PC.mv q.2⟩, fun U hU hW => ⟨rfl, PC.of hU hW hPc hK hDc hN⟩⟩ rfl rfl hl.1 rfl (lv_room (Nat.le_of_ble_eq_true rfl)) dX5_countSlots_14 ⟨Nat.zero_le _, Nat.zero_le _⟩) hS (fun q _ h => hFc q h) hFc (fun u t H1 locs ht hvm hw hB hz1 hk1 hS => ?_)
        obtain ⟨hP1, hD1⟩ := hB
        rw [ht] at hP1
        obtain ⟨hP, hD⟩ := va_join (wr := [(p_this, .inr (5, [.ref p_text, .ref p_reader, .ref p_told, .ref p_draft, .ref p_now, .ref p_imageZero, .ref p_imageOne, .ref p_slots, .ref p_placesOf, .int d_keptImages, .long d_traced])), (p_now, .inr (0, [.ref p_now_mounts, .ref p_now_lendings, .ref p_now_log, .ref p_now_undos])), (p_now_mounts, .inr (2, [.int d_now_mounts_most, .ref p_now_mounts_cells, .int d_now_mounts_many])), (p_now_mounts_cells, .inl (cI, 48, .inl d_now_mounts_cells))]) (w1 := [(p_slots, .inl (cI, 8, .inl (f_X5_put 8 d_slots_2 x3_2 0)))]) hP hD [4] [0, 1, 2, 3] rfl rfl (by decide) (by decide) hk1 hFc hP1 hD1
        have hP : va_P (dC, dI) vwCl [(p_this, .inr (5, [.ref p_text, .ref p_reader, .ref p_told, .ref p_draft, .ref p_now, .ref p_imageZero, .ref p_imageOne, .ref p_slots, .ref p_placesOf, .int d_keptImages, .long d_traced])), (p_now, .inr (0, [.ref p_now_mounts, .ref p_now_lendings, .ref p_now_log, .ref p_now_undos])), (p_now_mounts, .inr (2, [.int d_now_mounts_most, .ref p_now_mounts_cells, .int d_now_mounts_many])), (p_now_mounts_cells, .inl (cI, 48, .inl d_now_mounts_cells)), (p_slots, .inl (cI, 8, .inl (f_X5_put 8 d_slots_2 x3_2 0)))] H1 := hP.sub [0, 1, 2, 3, 4] rfl
        have hD : va_D A [(p_this, .inr (5, [.ref p_text, .ref p_reader, .ref p_told, .ref p_draft, .ref p_now, .ref p_imageZero, .ref p_imageOne, .ref p_slots, .ref p_placesOf, .int d_keptImages, .long d_traced])), (p_now, .inr (0, [.ref p_now_mounts, .ref p_now_lendings, .ref p_now_log, .ref p_now_undos])), (p_now_mounts, .inr (2, [.int d_now_mounts_most, .ref p_now_mounts_cells, .int d_now_mounts_many])), (p_now_mounts_cells, .inl (cI, 48, .inl d_now_mounts_cells)), (p_slots, .inl (cI, 8, .inl (f_X5_put 8 d_slots_2 x3_2 0)))] := hD.sub [0, 1, 2, 3, 4] (by decide) rfl
        clear hPc hDc hFc hk1 hz1 hP1 hD1 ht hvm
        generalize H1 = H at hP hS ⊢
        refine lv_iinc (v := x3_2 + 1) (lv' := [(3, .int (x3_2 + 1)), (0, .ref p_this), (1, .int x1), (2, .int x2)]) hx hb dX5_countSlots_17 hl (k := 3) rfl rfl (by decide) rfl (fun ls hl => ?_)
        refine lv_goto (tgt := 2) hx hb dX5_countSlots_20 (by decide) ?_
        exact ih2 (x3_2 + 1) (f_X5_put 8 d_slots_2 x3_2 0) H locs hP hD hS ls (lv_sub hl [1, 2, 3, 0] rfl) hrun
  exact L2 FU 0 d_slots H locs hP hD hS ls (lv_sub hl [1, 2, 3, 0] rfl) hrun
-- SkyListeners.hasBit
def f_X5_hasBit (x0 : Int32) (x1 : Int32) : Int32 := (if ((x0 >>> (x1 &&& 31)) &&& 1) = 1 then (1) else (0))
theorem b_X5_hasBit (x0 : Int32) (x1 : Int32) : f_X5_hasBit x0 x1 = 0 ∨ f_X5_hasBit x0 x1 = 1 := by unfold f_X5_hasBit; first | (repeat' split) <;> first | exact Or.inl rfl | exact Or.inr rfl
set_option maxHeartbeats 4000000 in
set_option maxRecDepth 100000 in
theorem c_X5_hasBit (l : Launch) (dC : Nat → ClassId) (dI : Nat → Nat → Nat) (cI cZ : ClassId) (sz : Nat) (x0 : Int32) (x1 : Int32) (out : Int32) (hrun : f_X5_hasBit x0 x1 = out) : Met l yX5_hasBit wsX5_hasBit ({ frames := 0, cells := 0, slots := 0, locals := 0 } : Room) (va_Pc [.int x0, .int x1] (PC dC dI cI cZ sz ([] : va_W))) (va_Qi (fun r (_ : Unit) => r = out) (fun _ t => va_P (dC, dI) vwCl [] t.heap ∧ va_D (va_A ([] : va_W) sz) []) (va_A ([] : va_W) sz)) 0 0 (va_A ([] : va_W) sz) := by
  refine Met.ofW (cc := cX5_hasBit) (maxL := 2) (ret := (some .boolean)) (by decide) rfl ?_
  intro p e s m args below meth c s₁ B hml hv
  obtain ⟨rfl, hsz, hP, hK, hD0, hN⟩ := hv
  have hx := B.exec
  have hb := B.bytes
  have hr := B.returns
  have hts := atoms_spec (ws := wsX5_hasBit) B.pre
  have hown : s.vm.findClass RX5 = some m.cls := findClass_of_methodNamed B.named
  have hlocks := B.notSynchronized
  subst hsz
  have hD := hD0.self (sz := s.heap.size)
  generalize hAe : va_A ([] : va_W) s.heap.size = A at hD ⊢
  have hA : ∀ q : Nat, s.heap.size ≤ q → A q := fun q h => by rw [← hAe]; exact Or.inr h
  have hS : va_S A s.heap s.heap [] := va_S.rf
  refine W_abs (fun Q hQ => ?_)
  have hl := lv_entry ([.int x0, .int x1]) (n := 2) (Nat.le_of_ble_eq_true rfl)
  rw [lg_entry_eq]
  generalize (lg_sl ([.int x0, .int x1]) ++ List.replicate (2 - (lg_sl ([.int x0, .int x1])).length) Slot.unset).toArray = ls at hl ⊢
  have hl : lv_has ls 2 [(0, .int x0), (1, .int x1)] := hl
  rw [f_X5_hasBit] at hrun
  refine W_start (ws := []) hP hS (fun H locs hP hS => ?_)
  refine lv_iload_n hx hb dX5_hasBit_0 rfl (lv_at hl 0 rfl) ?_
  refine lv_iload_n hx hb dX5_hasBit_1 rfl (lv_at hl 1 rfl) ?_
  refine lv_ishr hx hb dX5_hasBit_2 ?_
  refine lv_iconst (v := 1) hx hb dX5_hasBit_3 (by decide) ?_
  refine lv_iand hx hb dX5_hasBit_4 ?_
  refine lv_iconst (v := 1) hx hb dX5_hasBit_5 (by decide) ?_
  refine lv_icmp_ne (tgt := 13) hx hb dX5_hasBit_6 (by decide) (fun c_6 => ?_) (fun c_6 => ?_)
  · rw [if_neg c_6] at hrun
    refine lv_iconst (v := 0) hx hb dX5_hasBit_13 (by decide) ?_
    have hrun := hrun
    subst hrun
    rw [hQ]
    exact W.zret (v := 0) (ty := .boolean) hx hb hr rfl (fun t ht hW => ⟨⟨0, (), rfl, rfl, by rw [ht]; exact hP, hD⟩, hS.F ht⟩) hS.2.2 dX5_hasBit_14
  · rw [if_pos c_6] at hrun
    refine lv_iconst (v := 1) hx hb dX5_hasBit_9 (by decide) ?_
    refine lv_goto (tgt := 14) hx hb dX5_hasBit_10 (by decide) ?_
    have hrun := hrun
    subst hrun
    rw [hQ]
    exact W.zret (v := 1) (ty := .boolean) hx hb hr rfl (fun t ht hW => ⟨⟨1, (), rfl, rfl, by rw [ht]; exact hP, hD⟩, hS.F ht⟩) hS.2.2 dX5_hasBit_14
-- SkyListeners.sureOf
def f_X5_sureOf_J41 (K4 : Int32 → Int32 → Option (Int32)) (x1 : Int32) (x3 : Int32) (d_told_askers_many : Int32) (d_told_askers_cells : Nat → Int32) (x2 : Int32) : Option (Int32) := (K4 x2 (x3 + 1))
def f_X5_sureOf_L4 (x1 : Int32) (d_told_askers_many : Int32) (d_told_askers_cells : Nat → Int32) : Nat → Int32 → Int32 → Option (Int32)
  | 0, _, _ => none
  | n9 + 1, x2, x3 => (if d_told_askers_many ≤ x3 then (some x2) else (if (f_X5_hasBit x1 x3) = 0 then (f_X5_sureOf_J41 (f_X5_sureOf_L4  x1 d_told_askers_many d_told_askers_cells n9) x1 x3 d_told_askers_many d_told_askers_cells x2) else (f_X5_sureOf_J41 (f_X5_sureOf_L4  x1 d_told_askers_many d_told_askers_cells n9) x1 x3 d_told_askers_many d_told_askers_cells (x2 + (f_X2_number d_told_askers_many d_told_askers_cells x3 1)))))
def f_X5_sureOf (d_told_askers_many : Int32) (d_told_askers_cells : Nat → Int32) (x1 : Int32) : Option (Int32) := (f_X5_sureOf_L4 x1 d_told_askers_many d_told_askers_cells FU 0 0)
set_option maxHeartbeats 4000000 in
set_option maxRecDepth 100000 in
theorem c_X5_sureOf (l : Launch) (dC : Nat → ClassId) (dI : Nat → Nat → Nat) (cI cZ : ClassId) (sz : Nat) (p_draft p_imageOne p_imageZero p_now p_placesOf p_reader p_slots p_text p_this p_told p_told_askers p_told_askers_cells p_told_dishes p_told_noises p_told_speakers : Nat) (d_keptImages : Int32) (d_traced : Int64) (d_told_askers_most : Int32) (d_told_askers_many : Int32) (d_told_askers_cells : Nat → Int32) (x1 : Int32) (out : Int32) (hrun : f_X5_sureOf d_told_askers_many d_told_askers_cells x1 = some out) : Met l yX5_sureOf wsX5_sureOf ({ frames := 2, cells := 0, slots := 0, locals := 44 } : Room) (va_Pc [.ref p_this, .int x1] (PC dC dI cI cZ sz ([(p_this, .inr (5, [.ref p_text, .ref p_reader, .ref p_told, .ref p_draft, .ref p_now, .ref p_imageZero, .ref p_imageOne, .ref p_slots, .ref p_placesOf, .int d_keptImages, .long d_traced])), (p_told, .inr (4, [.ref p_told_dishes, .ref p_told_speakers, .ref p_told_noises, .ref p_told_askers])), (p_told_askers, .inr (2, [.int d_told_askers_most, .ref p_told_askers_cells, .int d_told_askers_many])), (p_told_askers_cells, .inl (cI, 48, .inl d_told_askers_cells))] : va_W))) (va_Qi (fun r (_ : Unit) => r = out) (fun _ t => va_P (dC, dI) vwCl [(p_this, .inr (5, [.ref p_text, .ref p_reader, .ref p_told, .ref p_draft, .ref p_now, .ref p_imageZero, .ref p_imageOne, .ref p_slots, .ref p_placesOf, .int d_keptImages, .long d_traced])), (p_told, .inr (4, [.ref p_told_dishes, .ref p_told_speakers, .ref p_told_noises, .ref p_told_askers])), (p_told_askers, .inr (2, [.int d_told_askers_most, .ref p_told_askers_cells, .int d_told_askers_many])), (p_told_askers_cells, .inl (cI, 48, .inl d_told_askers_cells))] t.heap ∧ va_D (va_A ([(p_this, .inr (5, [.ref p_text, .ref p_reader, .ref p_told, .ref p_draft, .ref p_now, .ref p_imageZero, .ref p_imageOne, .ref p_slots, .ref p_placesOf, .int d_keptImages, .long d_traced])), (p_told, .inr (4, [.ref p_told_dishes, .ref p_told_speakers, .ref p_told_noises, .ref p_told_askers])), (p_told_askers, .inr (2, [.int d_told_askers_most, .ref p_told_askers_cells, .int d_told_askers_many])), (p_told_askers_cells, .inl (cI, 48, .inl d_told_askers_cells))] : va_W) sz) [(p_this, .inr (5, [.ref p_text, .ref p_reader, .ref p_told, .ref p_draft, .ref p_now, .ref p_imageZero, .ref p_imageOne, .ref p_slots, .ref p_placesOf, .int d_keptImages, .long d_traced])), (p_told, .inr (4, [.ref p_told_dishes, .ref p_told_speakers, .ref p_told_noises, .ref p_told_askers])), (p_told_askers, .inr (2, [.int d_told_askers_most, .ref p_told_askers_cells, .int d_told_askers_many])), (p_told_askers_cells, .inl (cI, 48, .inl d_told_askers_cells))]) (va_A ([(p_this, .inr (5, [.ref p_text, .ref p_reader, .ref p_told, .ref p_draft, .ref p_now, .ref p_imageZero, .ref p_imageOne, .ref p_slots, .ref p_placesOf, .int d_keptImages, .long d_traced])), (p_told, .inr (4, [.ref p_told_dishes, .ref p_told_speakers, .ref p_told_noises, .ref p_told_askers])), (p_told_askers, .inr (2, [.int d_told_askers_most, .ref p_told_askers_cells, .int d_told_askers_many])), (p_told_askers_cells, .inl (cI, 48, .inl d_told_askers_cells))] : va_W) sz)) 0 0 (va_A ([(p_this, .inr (5, [.ref p_text, .ref p_reader, .ref p_told, .ref p_draft, .ref p_now, .ref p_imageZero, .ref p_imageOne, .ref p_slots, .ref p_placesOf, .int d_keptImages, .long d_traced])), (p_told, .inr (4, [.ref p_told_dishes, .ref p_told_speakers, .ref p_told_noises, .ref p_told_askers])), (p_told_askers, .inr (2, [.int d_told_askers_most, .ref p_told_askers_cells, .int d_told_askers_many])), (p_told_askers_cells, .inl (cI, 48, .inl d_told_askers_cells))] : va_W) sz) := by
  refine Met.ofW (cc := cX5_sureOf) (maxL := 4) (ret := (some .int)) (by decide) rfl ?_
  intro p e s m args below meth c s₁ B hml hv
  obtain ⟨rfl, hsz, hP, hK, hD0, hN⟩ := hv
  have hx := B.exec
  have hb := B.bytes
  have hr := B.returns
  have hts := atoms_spec (ws := wsX5_sureOf) B.pre
  have hown : s.vm.findClass RX5 = some m.cls := findClass_of_methodNamed B.named
  have hlocks := B.notSynchronized
  subst hsz
  have hD := hD0.self (sz := s.heap.size)
  generalize hAe : va_A ([(p_this, .inr (5, [.ref p_text, .ref p_reader, .ref p_told, .ref p_draft, .ref p_now, .ref p_imageZero, .ref p_imageOne, .ref p_slots, .ref p_placesOf, .int d_keptImages, .long d_traced])), (p_told, .inr (4, [.ref p_told_dishes, .ref p_told_speakers, .ref p_told_noises, .ref p_told_askers])), (p_told_askers, .inr (2, [.int d_told_askers_most, .ref p_told_askers_cells, .int d_told_askers_many])), (p_told_askers_cells, .inl (cI, 48, .inl d_told_askers_cells))] : va_W) s.heap.size = A at hD ⊢
  have hA : ∀ q : Nat, s.heap.size ≤ q → A q := fun q h => by rw [← hAe]; exact Or.inr h
  have hS : va_S A s.heap s.heap [] := va_S.rf
  refine W_abs (fun Q hQ => ?_)
  have hl := lv_entry ([.ref p_this, .int x1]) (n := 4) (Nat.le_of_ble_eq_true rfl)
  rw [lg_entry_eq]
  generalize (lg_sl ([.ref p_this, .int x1]) ++ List.replicate (4 - (lg_sl ([.ref p_this, .int x1])).length) Slot.unset).toArray = ls at hl ⊢
  have hl : lv_has ls 4 [(0, .ref p_this), (1, .int x1)] := hl
  rw [f_X5_sureOf] at hrun
  refine W_start (ws := [(p_this, .inr (5, [.ref p_text, .ref p_reader, .ref p_told, .ref p_draft, .ref p_now, .ref p_imageZero, .ref p_imageOne, .ref p_slots, .ref p_placesOf, .int d_keptImages, .long d_traced])), (p_told, .inr (4, [.ref p_told_dishes, .ref p_told_speakers, .ref p_told_noises, .ref p_told_askers])), (p_told_askers, .inr (2, [.int d_told_askers_most, .ref p_told_askers_cells, .int d_told_askers_many])), (p_told_askers_cells, .inl (cI, 48, .inl d_told_askers_cells))]) hP hS (fun H locs hP hS => ?_)
  have iwX2 : ∀ w ∈ wsX20, w ∈ wsX5_sureOf := by decide +kernel
  have iwX4 : ∀ w ∈ wsX40, w ∈ wsX5_sureOf := by decide +kernel
  have iwX5 : ∀ w ∈ wsX50, w ∈ wsX5_sureOf := by decide +kernel
  refine lv_iconst (v := 0) hx hb dX5_sureOf_0 (by decide) ?_
  refine lv_istore_n (lv' := [(2, .int 0), (0, .ref p_this), (1, .int x1)]) hx hb dX5_sureOf_1 rfl hl (by decide) rfl (fun ls hl => ?_)
  refine lv_iconst (v := 0) hx hb dX5_sureOf_2 (by decide) ?_
  refine lv_istore_n (lv' := [(3, .int 0), (2, .int 0), (0, .ref p_this), (1, .int x1)]) hx hb dX5_sureOf_3 rfl hl (by decide) rfl (fun ls hl => ?_)
  have L4 : ∀ (n9_4 : Nat) (x2_4 : Int32) (x3_4 : Int32) (H : Heap) (locs : List Loc), va_P (dC, dI) vwCl [(p_this, .inr (5, [.ref p_text, .ref p_reader, .ref p_told, .ref p_draft, .ref p_now, .ref p_imageZero, .ref p_imageOne, .ref p_slots, .ref p_placesOf, .int d_keptImages, .long d_traced])), (p_told, .inr (4, [.ref p_told_dishes, .ref p_told_speakers, .ref p_told_noises, .ref p_told_askers])), (p_told_askers, .inr (2, [.int d_told_askers_most, .ref p_told_askers_cells, .int d_told_askers_many])), (p_told_askers_cells, .inl (cI, 48, .inl d_told_askers_cells))] H → va_D A [(p_this, .inr (5, [.ref p_text, .ref p_reader, .ref p_told, .ref p_draft, .ref p_now, .ref p_imageZero, .ref p_imageOne, .ref p_slots, .ref p_placesOf, .int d_keptImages, .long d_traced])), (p_told, .inr (4, [.ref p_told_dishes, .ref p_told_speakers, .ref p_told_noises, .ref p_told_askers])), (p_told_askers, .inr (2, [.int d_told_askers_most, .ref p_told_askers_cells, .int d_told_askers_many])), (p_told_askers_cells, .inl (cI, 48, .inl d_told_askers_cells))] → va_S A s.heap H locs → ∀ ls : Array Slot, lv_has ls 4 [(0, .ref p_this), (1, .int x1), (2, .int x2_4), (3, .int x3_4)] → f_X5_sureOf_L4 x1 d_told_askers_many d_told_askers_cells n9_4 x2_4 x3_4 = some out → W p l e ({ frames := 2, cells := 0, slots := 0, locals := 44 } : Room) s m ([.ref p_this, .int x1] : List Value).toArray below meth c H locs 0 0 Q (F0 m 4 ls []) := by
    intro n9_4
    induction n9_4 with
    | zero =>
      intro x2_4 x3_4 H locs hP hD hS ls hl hrun
      rw [f_X5_sureOf_L4] at hrun
      cases hrun
    | succ n9_4 ih4 =>
      intro x2_4 x3_4 H locs hP hD hS ls hl hrun
      rw [f_X5_sureOf_L4] at hrun
      refine lv_iload_n hx hb dX5_sureOf_4 rfl (lv_at hl 3 rfl) ?_
      refine lv_aload_n hx hb dX5_sureOf_5 rfl (lv_at hl 0 rfl) ?_
      refine va_get (D := (dC, dI)) (ci := 5) (v := .ref p_told) (C := RX5) (T := TX5) (N := 11) hx hb hts iwX5 hown hK hP 0 rfl rfl 2 (by decide) (hts (.fieldLink RX5 26 "SkyListeners" "told" "LSkyListeners$Valley;") (by decide +kernel)) (fun _ h9 => h9) rfl dX5_sureOf_6 ?_
      refine va_get (D := (dC, dI)) (ci := 4) (v := .ref p_told_askers) (C := RX4) (T := TX4) (N := 4) hx hb hts iwX4 hown hK hP 1 rfl rfl 3 (by decide) (hts (.fieldLink RX5 106 "SkyListeners$Valley" "askers" "LSkyListeners$Rows;") (by decide +kernel)) (fun _ h9 => h9) rfl dX5_sureOf_9 ?_
      refine va_get (D := (dC, dI)) (ci := 2) (v := .int d_told_askers_many) (C := RX2) (T := TX2) (N := 3) hx hb hts iwX2 hown hK hP 2 rfl rfl 2 (by decide) (hts (.fieldLink RX5 136 "SkyListeners$Rows" "many" "I") (by decide +kernel)) (fun _ h9 => h9) rfl dX5_sureOf_12 ?_
      refine lv_icmp_ge (tgt := 47) hx hb dX5_sureOf_15 (by decide) (fun c_15 => ?_) (fun c_15 => ?_)
      · rw [if_pos c_15] at hrun
        refine lv_iload_n hx hb dX5_sureOf_47 rfl (lv_at hl 2 rfl) ?_
        have hrun := Option.some.inj hrun
        subst hrun
        rw [hQ]
        exact W.iret (v := x2_4) hx hb hr (fun t ht hW => ⟨⟨x2_4, (), rfl, rfl, by rw [ht]; exact hP, hD⟩, hS.F ht⟩) hS.2.2 dX5_sureOf_48
      · rw [if_neg c_15] at hrun
        refine lv_iload_n hx hb dX5_sureOf_18 rfl (lv_at hl 1 rfl) ?_
        refine lv_iload_n hx hb dX5_sureOf_19 rfl (lv_at hl 3 rfl) ?_
        have hPc : va_P (dC, dI) vwCl [] H := hP.sub [] rfl
        have hDc : va_D A [] := hD.sub [] (by decide) rfl
        have hFc := va_free (wc := []) hD hS hA [] rfl
        refine va_calli (va_runS (As := [.int x1, .int x3_4]) (rest := []) ⟨hx, hb, hml, hown, hts⟩ (c_X5_hasBit l dC dI cI cZ H.size x1 x3_4 (f_X5_hasBit x1 x3_4) rfl) (va_cwS 2 hts gX5_sureOf_X5_hasBit rfl rfl rfl (by decide +kernel) ⟨Nat.le_of_ble_eq_true rfl, Nat.le_of_ble_eq_true rfl⟩) ⟨fun a U g mk q => ⟨q.1, PC.mv q.2⟩, fun U hU hW => ⟨rfl, PC.of hU hW hPc hK hDc hN⟩⟩ rfl rfl hl.1 rfl (lv_room (Nat.le_of_ble_eq_true rfl)) dX5_sureOf_20 ⟨Nat.zero_le _, Nat.zero_le _⟩) hS (fun q _ h => hFc q h) hFc (fun r_20 u t H1 locs ht hvm hw hB hz1 hk1 hS => ?_)
        obtain ⟨hP1, hD1⟩ := hB
        try dsimp only at hw
        rw [hw]
        rw [ht] at hP1
        have hP : va_P (dC, dI) vwCl [(p_this, .inr (5, [.ref p_text, .ref p_reader, .ref p_told, .ref p_draft, .ref p_now, .ref p_imageZero, .ref p_imageOne, .ref p_slots, .ref p_placesOf, .int d_keptImages, .long d_traced])), (p_told, .inr (4, [.ref p_told_dishes, .ref p_told_speakers, .ref p_told_noises, .ref p_told_askers])), (p_told_askers, .inr (2, [.int d_told_askers_most, .ref p_told_askers_cells, .int d_told_askers_many])), (p_told_askers_cells, .inl (cI, 48, .inl d_told_askers_cells))] H1 := join_ro hP hD [] rfl hk1 hP1
        clear hPc hDc hFc hk1 hz1 hP1 hD1 ht hvm
        generalize H1 = H at hP hS ⊢
        have J41 : ∀ (x2_41 : Int32) (H : Heap) (locs : List Loc), va_P (dC, dI) vwCl [(p_this, .inr (5, [.ref p_text, .ref p_reader, .ref p_told, .ref p_draft, .ref p_now, .ref p_imageZero, .ref p_imageOne, .ref p_slots, .ref p_placesOf, .int d_keptImages, .long d_traced])), (p_told, .inr (4, [.ref p_told_dishes, .ref p_told_speakers, .ref p_told_noises, .ref p_told_askers])), (p_told_askers, .inr (2, [.int d_told_askers_most, .ref p_told_askers_cells, .int d_told_askers_many])), (p_told_askers_cells, .inl (cI, 48, .inl d_told_askers_cells))] H → va_D A [(p_this, .inr (5, [.ref p_text, .ref p_reader, .ref p_told, .ref p_draft, .ref p_now, .ref p_imageZero, .ref p_imageOne, .ref p_slots, .ref p_placesOf, .int d_keptImages, .long d_traced])), (p_told, .inr (4, [.ref p_told_dishes, .ref p_told_speakers, .ref p_told_noises, .ref p_told_askers])), (p_told_askers, .inr (2, [.int d_told_askers_most, .ref p_told_askers_cells, .int d_told_askers_many])), (p_told_askers_cells, .inl (cI, 48, .inl d_told_askers_cells))] → va_S A s.heap H locs → ∀ ls : Array Slot, lv_has ls 4 [(0, .ref p_this), (1, .int x1), (2, .int x2_41), (3, .int x3_4)] → f_X5_sureOf_J41 (f_X5_sureOf_L4 x1 d_told_askers_many d_told_askers_cells n9_4) x1 x3_4 d_told_askers_many d_told_askers_cells x2_41 = some out → W p l e ({ frames := 2, cells := 0, slots := 0, locals := 44 } : Room) s m ([.ref p_this, .int x1] : List Value).toArray below meth c H locs 0 0 Q (F0 m 41 ls []) := by
          intro x2_41 H locs hP hD hS ls hl hrun
          rw [f_X5_sureOf_J41] at hrun
          refine lv_iinc (v := x3_4 + 1) (lv' := [(3, .int (x3_4 + 1)), (0, .ref p_this), (1, .int x1), (2, .int x2_41)]) hx hb dX5_sureOf_41 hl (k := 3) rfl rfl (by decide) rfl (fun ls hl => ?_)
          refine lv_goto (tgt := 4) hx hb dX5_sureOf_44 (by decide) ?_
          exact ih4 x2_41 (x3_4 + 1) H locs hP hD hS ls (lv_sub hl [1, 2, 3, 0] rfl) hrun
        refine lv_if_eq (tgt := 41) hx hb dX5_sureOf_23 (by decide) (fun c_23 => ?_) (fun c_23 => ?_)
        · rw [if_pos c_23] at hrun
          exact J41 x2_4 H locs hP hD hS ls hl hrun
        · rw [if_neg c_23] at hrun
          refine lv_iload_n hx hb dX5_sureOf_26 rfl (lv_at hl 2 rfl) ?_
          refine lv_aload_n hx hb dX5_sureOf_27 rfl (lv_at hl 0 rfl) ?_
          refine va_get (D := (dC, dI)) (ci := 5) (v := .ref p_told) (C := RX5) (T := TX5) (N := 11) hx hb hts iwX5 hown hK hP 0 rfl rfl 2 (by decide) (hts (.fieldLink RX5 26 "SkyListeners" "told" "LSkyListeners$Valley;") (by decide +kernel)) (fun _ h9 => h9) rfl dX5_sureOf_28 ?_
          refine va_get (D := (dC, dI)) (ci := 4) (v := .ref p_told_askers) (C := RX4) (T := TX4) (N := 4) hx hb hts iwX4 hown hK hP 1 rfl rfl 3 (by decide) (hts (.fieldLink RX5 106 "SkyListeners$Valley" "askers" "LSkyListeners$Rows;") (by decide +kernel)) (fun _ h9 => h9) rfl dX5_sureOf_31 ?_
          refine lv_iload_n hx hb dX5_sureOf_34 rfl (lv_at hl 3 rfl) ?_
          refine lv_iconst (v := 1) hx hb dX5_sureOf_35 (by decide) ?_
          have hPc : va_P (dC, dI) vwCl [(p_told_askers, .inr (2, [.int d_told_askers_most, .ref p_told_askers_cells, .int d_told_askers_many])), (p_told_askers_cells, .inl (cI, 48, .inl d_told_askers_cells))] H := hP.sub [2, 3] rfl
          have hDc : va_D A [(p_told_askers, .inr (2, [.int d_told_askers_most, .ref p_told_askers_cells, .int d_told_askers_many])), (p_told_askers_cells, .inl (cI, 48, .inl d_told_askers_cells))] := hD.sub [2, 3] (by decide) rfl
          have hFc := va_free (wc := [(p_told_askers, .inr (2, [.int d_told_askers_most, .ref p_told_askers_cells, .int d_told_askers_many])), (p_told_askers_cells, .inl (cI, 48, .inl d_told_askers_cells))]) hD hS hA [2, 3] rfl
          refine va_calli (va_runV (As := [.int x3_4, .int 1]) (rest := [.int x2_4]) ⟨hx, hb, hml, hown, hts⟩ (c_X2_number l dC dI cI cZ H.size p_told_askers_cells p_told_askers d_told_askers_most d_told_askers_many d_told_askers_cells x3_4 1 (f_X2_number d_told_askers_many d_told_askers_cells x3_4 1) rfl) (cwV 2 hts gX5_sureOf_X2_number rfl rfl rfl (by decide +kernel) ⟨Nat.le_of_ble_eq_true rfl, Nat.le_of_ble_eq_true rfl⟩) ⟨fun a U g mk q => ⟨q.1, PC.mv q.2⟩, va_recv hK hP (ci := 2) (q0 := 2) rfl rfl, fun U hU hW => ⟨rfl, PC.of hU hW hPc hK hDc hN⟩⟩ rfl rfl hl.1 rfl (lv_room (Nat.le_of_ble_eq_true rfl)) dX5_sureOf_36 ⟨Nat.zero_le _, Nat.zero_le _⟩) hS (fun q _ h => hFc q h) hFc (fun r_36 u t H1 locs ht hvm hw hB hz1 hk1 hS => ?_)
          obtain ⟨hP1, hD1⟩ := hB
          try dsimp only at hw
          rw [hw]
          rw [ht] at hP1
          have hP : va_P (dC, dI) vwCl [(p_this, .inr (5, [.ref p_text, .ref p_reader, .ref p_told, .ref p_draft, .ref p_now, .ref p_imageZero, .ref p_imageOne, .ref p_slots, .ref p_placesOf, .int d_keptImages, .long d_traced])), (p_told, .inr (4, [.ref p_told_dishes, .ref p_told_speakers, .ref p_told_noises, .ref p_told_askers])), (p_told_askers, .inr (2, [.int d_told_askers_most, .ref p_told_askers_cells, .int d_told_askers_many])), (p_told_askers_cells, .inl (cI, 48, .inl d_told_askers_cells))] H1 := join_ro hP hD [2, 3] rfl hk1 hP1
          clear hPc hDc hFc hk1 hz1 hP1 hD1 ht hvm
          generalize H1 = H at hP hS ⊢
          refine lv_iadd hx hb dX5_sureOf_39 ?_
          refine lv_istore_n (lv' := [(2, .int (x2_4 + (f_X2_number d_told_askers_many d_told_askers_cells x3_4 1))), (0, .ref p_this), (1, .int x1), (3, .int x3_4)]) hx hb dX5_sureOf_40 rfl hl (by decide) rfl (fun ls hl => ?_)
          exact J41 (x2_4 + (f_X2_number d_told_askers_many d_told_askers_cells x3_4 1)) H locs hP hD hS ls (lv_sub hl [1, 2, 0, 3] rfl) hrun
  exact L4 FU 0 0 H locs hP hD hS ls (lv_sub hl [2, 3, 1, 0] rfl) hrun
-- SkyListeners.haveSlots
def f_X5_haveSlots_X63 (K2 : Int32 → Option (Int32)) (x1 : Int32) (x2 : Int32) (d_slots : Nat → Int32) (d_told_askers_many : Int32) (d_told_askers_cells : Nat → Int32) (x3 : Int32) : Option (Int32) := (if x3 ≤ (f_X5_at 8 d_slots x2) then (K2 (x2 + 1)) else (some 0))
def f_X5_haveSlots_J57 (K13 : Int32 → Int32 → Option (Int32)) (x1 : Int32) (x2 : Int32) (x4 : Int32) (d_slots : Nat → Int32) (d_told_askers_many : Int32) (d_told_askers_cells : Nat → Int32) (x3 : Int32) : Option (Int32) := (K13 x3 (x4 + 1))
def f_X5_haveSlots_L13 (K63 : Int32 → Option (Int32)) (x1 : Int32) (x2 : Int32) (d_slots : Nat → Int32) (d_told_askers_many : Int32) (d_told_askers_cells : Nat → Int32) : Nat → Int32 → Int32 → Option (Int32)
  | 0, _, _ => none
  | n9 + 1, x3, x4 => (if d_told_askers_many ≤ x4 then (K63 x3) else (if (f_X5_hasBit x1 x4) = 0 then (f_X5_haveSlots_J57 (f_X5_haveSlots_L13 K63 x1 x2 d_slots d_told_askers_many d_told_askers_cells n9) x1 x2 x4 d_slots d_told_askers_many d_told_askers_cells x3) else (if (f_X2_number d_told_askers_many d_told_askers_cells x4 0) = x2 then (f_X5_haveSlots_J57 (f_X5_haveSlots_L13 K63 x1 x2 d_slots d_told_askers_many d_told_askers_cells n9) x1 x2 x4 d_slots d_told_askers_many d_told_askers_cells (x3 + 1)) else (f_X5_haveSlots_J57 (f_X5_haveSlots_L13 K63 x1 x2 d_slots d_told_askers_many d_told_askers_cells n9) x1 x2 x4 d_slots d_told_askers_many d_told_askers_cells x3))))
def f_X5_haveSlots_L2 (x1 : Int32) (d_slots : Nat → Int32) (d_told_askers_many : Int32) (d_told_askers_cells : Nat → Int32) : Nat → Int32 → Option (Int32)
  | 0, _ => none
  | n9 + 1, x2 => (if 8 ≤ x2 then (some 1) else (f_X5_haveSlots_L13 (f_X5_haveSlots_X63 (f_X5_haveSlots_L2  x1 d_slots d_told_askers_many d_told_askers_cells n9) x1 x2 d_slots d_told_askers_many d_told_askers_cells) x1 x2 d_slots d_told_askers_many d_told_askers_cells FU 0 0))
def f_X5_haveSlots (d_slots : Nat → Int32) (d_told_askers_many : Int32) (d_told_askers_cells : Nat → Int32) (x1 : Int32) : Option (Int32) := (f_X5_haveSlots_L2 x1 d_slots d_told_askers_many d_told_askers_cells FU 0)
set_option maxHeartbeats 4000000 in
set_option maxRecDepth 100000 in
theorem c_X5_haveSlots (l : Launch) (dC : Nat → ClassId) (dI : Nat → Nat → Nat) (cI cZ : ClassId) (sz : Nat) (p_draft p_imageOne p_imageZero p_now p_placesOf p_reader p_slots p_text p_this p_told p_told_askers p_told_askers_cells p_told_dishes p_told_noises p_told_speakers : Nat) (d_keptImages : Int32) (d_traced : Int64) (d_slots : Nat → Int32) (d_told_askers_most : Int32) (d_told_askers_many : Int32) (d_told_askers_cells : Nat → Int32) (x1 : Int32) (out : Int32) (hrun : f_X5_haveSlots d_slots d_told_askers_many d_told_askers_cells x1 = some out) : Met l yX5_haveSlots wsX5_haveSlots ({ frames := 2, cells := 0, slots := 0, locals := 44 } : Room) (va_Pc [.ref p_this, .int x1] (PC dC dI cI cZ sz ([(p_this, .inr (5, [.ref p_text, .ref p_reader, .ref p_told, .ref p_draft, .ref p_now, .ref p_imageZero, .ref p_imageOne, .ref p_slots, .ref p_placesOf, .int d_keptImages, .long d_traced])), (p_slots, .inl (cI, 8, .inl d_slots)), (p_told, .inr (4, [.ref p_told_dishes, .ref p_told_speakers, .ref p_told_noises, .ref p_told_askers])), (p_told_askers, .inr (2, [.int d_told_askers_most, .ref p_told_askers_cells, .int d_told_askers_many])), (p_told_askers_cells, .inl (cI, 48, .inl d_told_askers_cells))] : va_W))) (va_Qi (fun r (_ : Unit) => r = out) (fun _ t => va_P (dC, dI) vwCl [(p_this, .inr (5, [.ref p_text, .ref p_reader, .ref p_told, .ref p_draft, .ref p_now, .ref p_imageZero, .ref p_imageOne, .ref p_slots, .ref p_placesOf, .int d_keptImages, .long d_traced])), (p_slots, .inl (cI, 8, .inl d_slots)), (p_told, .inr (4, [.ref p_told_dishes, .ref p_told_speakers, .ref p_told_noises, .ref p_told_askers])), (p_told_askers, .inr (2, [.int d_told_askers_most, .ref p_told_askers_cells, .int d_told_askers_many])), (p_told_askers_cells, .inl (cI, 48, .inl d_told_askers_cells))] t.heap ∧ va_D (va_A ([(p_this, .inr (5, [.ref p_text, .ref p_reader, .ref p_told, .ref p_draft, .ref p_now, .ref p_imageZero, .ref p_imageOne, .ref p_slots, .ref p_placesOf, .int d_keptImages, .long d_traced])), (p_slots, .inl (cI, 8, .inl d_slots)), (p_told, .inr (4, [.ref p_told_dishes, .ref p_told_speakers, .ref p_told_noises, .ref p_told_askers])), (p_told_askers, .inr (2, [.int d_told_askers_most, .ref p_told_askers_cells, .int d_told_askers_many])), (p_told_askers_cells, .inl (cI, 48, .inl d_told_askers_cells))] : va_W) sz) [(p_this, .inr (5, [.ref p_text, .ref p_reader, .ref p_told, .ref p_draft, .ref p_now, .ref p_imageZero, .ref p_imageOne, .ref p_slots, .ref p_placesOf, .int d_keptImages, .long d_traced])), (p_slots, .inl (cI, 8, .inl d_slots)), (p_told, .inr (4, [.ref p_told_dishes, .ref p_told_speakers, .ref p_told_noises, .ref p_told_askers])), (p_told_askers, .inr (2, [.int d_told_askers_most, .ref p_told_askers_cells, .int d_told_askers_many])), (p_told_askers_cells, .inl (cI, 48, .inl d_told_askers_cells))]) (va_A ([(p_this, .inr (5, [.ref p_text, .ref p_reader, .ref p_told, .ref p_draft, .ref p_now, .ref p_imageZero, .ref p_imageOne, .ref p_slots, .ref p_placesOf, .int d_keptImages, .long d_traced])), (p_slots, .inl (cI, 8, .inl d_slots)), (p_told, .inr (4, [.ref p_told_dishes, .ref p_told_speakers, .ref p_told_noises, .ref p_told_askers])), (p_told_askers, .inr (2, [.int d_told_askers_most, .ref p_told_askers_cells, .int d_told_askers_many])), (p_told_askers_cells, .inl (cI, 48, .inl d_told_askers_cells))] : va_W) sz)) 0 0 (va_A ([(p_this, .inr (5, [.ref p_text, .ref p_reader, .ref p_told, .ref p_draft, .ref p_now, .ref p_imageZero, .ref p_imageOne, .ref p_slots, .ref p_placesOf, .int d_keptImages, .long d_traced])), (p_slots, .inl (cI, 8, .inl d_slots)), (p_told, .inr (4, [.ref p_told_dishes, .ref p_told_speakers, .ref p_told_noises, .ref p_told_askers])), (p_told_askers, .inr (2, [.int d_told_askers_most, .ref p_told_askers_cells, .int d_told_askers_many])), (p_told_askers_cells, .inl (cI, 48, .inl d_told_askers_cells))] : va_W) sz) := by
  refine Met.ofW (cc := cX5_haveSlots) (maxL := 5) (ret := (some .boolean)) (by decide) rfl ?_
  intro p e s m args below meth c s₁ B hml hv
  obtain ⟨rfl, hsz, hP, hK, hD0, hN⟩ := hv
  have hx := B.exec
  have hb := B.bytes
  have hr := B.returns
  have hts := atoms_spec (ws := wsX5_haveSlots) B.pre
  have hown : s.vm.findClass RX5 = some m.cls := findClass_of_methodNamed B.named
  have hlocks := B.notSynchronized
  subst hsz
  have hD := hD0.self (sz := s.heap.size)
  generalize hAe : va_A ([(p_this, .inr (5, [.ref p_text, .ref p_reader, .ref p_told, .ref p_draft, .ref p_now, .ref p_imageZero, .ref p_imageOne, .ref p_slots, .ref p_placesOf, .int d_keptImages, .long d_traced])), (p_slots, .inl (cI, 8, .inl d_slots)), (p_told, .inr (4, [.ref p_told_dishes, .ref p_told_speakers, .ref p_told_noises, .ref p_told_askers])), (p_told_askers, .inr (2, [.int d_told_askers_most, .ref p_told_askers_cells, .int d_told_askers_many])), (p_told_askers_cells, .inl (cI, 48, .inl d_told_askers_cells))] : va_W) s.heap.size = A at hD ⊢
  have hA : ∀ q : Nat, s.heap.size ≤ q → A q := fun q h => by rw [← hAe]; exact Or.inr h
  have hS : va_S A s.heap s.heap [] := va_S.rf
  refine W_abs (fun Q hQ => ?_)
  have hl := lv_entry ([.ref p_this, .int x1]) (n := 5) (Nat.le_of_ble_eq_true rfl)
  rw [lg_entry_eq]
  generalize (lg_sl ([.ref p_this, .int x1]) ++ List.replicate (5 - (lg_sl ([.ref p_this, .int x1])).length) Slot.unset).toArray = ls at hl ⊢
  have hl : lv_has ls 5 [(0, .ref p_this), (1, .int x1)] := hl
  rw [f_X5_haveSlots] at hrun
  refine W_start (ws := [(p_this, .inr (5, [.ref p_text, .ref p_reader, .ref p_told, .ref p_draft, .ref p_now, .ref p_imageZero, .ref p_imageOne, .ref p_slots, .ref p_placesOf, .int d_keptImages, .long d_traced])), (p_slots, .inl (cI, 8, .inl d_slots)), (p_told, .inr (4, [.ref p_told_dishes, .ref p_told_speakers, .ref p_told_noises, .ref p_told_askers])), (p_told_askers, .inr (2, [.int d_told_askers_most, .ref p_told_askers_cells, .int d_told_askers_many])), (p_told_askers_cells, .inl (cI, 48, .inl d_told_askers_cells))]) hP hS (fun H locs hP hS => ?_)
  have iwX2 : ∀ w ∈ wsX20, w ∈ wsX5_haveSlots := by decide +kernel
  have iwX4 : ∀ w ∈ wsX40, w ∈ wsX5_haveSlots := by decide +kernel
  have iwX5 : ∀ w ∈ wsX50, w ∈ wsX5_haveSlots := by decide +kernel
  refine lv_iconst (v := 0) hx hb dX5_haveSlots_0 (by decide) ?_
  refine lv_istore_n (lv' := [(2, .int 0), (0, .ref p_this), (1, .int x1)]) hx hb dX5_haveSlots_1 rfl hl (by decide) rfl (fun ls hl => ?_)
  have L2 : ∀ (n9_2 : Nat) (x2_2 : Int32) (H : Heap) (locs : List Loc), va_P (dC, dI) vwCl [(p_this, .inr (5, [.ref p_text, .ref p_reader, .ref p_told, .ref p_draft, .ref p_now, .ref p_imageZero, .ref p_imageOne, .ref p_slots, .ref p_placesOf, .int d_keptImages, .long d_traced])), (p_slots, .inl (cI, 8, .inl d_slots)), (p_told, .inr (4, [.ref p_told_dishes, .ref p_told_speakers, .ref p_told_noises, .ref p_told_askers])), (p_told_askers, .inr (2, [.int d_told_askers_most, .ref p_told_askers_cells, .int d_told_askers_many])), (p_told_askers_cells, .inl (cI, 48, .inl d_told_askers_cells))] H → va_D A [(p_this, .inr (5, [.ref p_text, .ref p_reader, .ref p_told, .ref p_draft, .ref p_now, .ref p_imageZero, .ref p_imageOne, .ref p_slots, .ref p_placesOf, .int d_keptImages, .long d_traced])), (p_slots, .inl (cI, 8, .inl d_slots)), (p_told, .inr (4, [.ref p_told_dishes, .ref p_told_speakers, .ref p_told_noises, .ref p_told_askers])), (p_told_askers, .inr (2, [.int d_told_askers_most, .ref p_told_askers_cells, .int d_told_askers_many])), (p_told_askers_cells, .inl (cI, 48, .inl d_told_askers_cells))] → va_S A s.heap H locs → ∀ ls : Array Slot, lv_has ls 5 [(0, .ref p_this), (1, .int x1), (2, .int x2_2)] → f_X5_haveSlots_L2 x1 d_slots d_told_askers_many d_told_askers_cells n9_2 x2_2 = some out → W p l e ({ frames := 2, cells := 0, slots := 0, locals := 44 } : Room) s m ([.ref p_this, .int x1] : List Value).toArray below meth c H locs 0 0 Q (F0 m 2 ls []) := by
    intro n9_2
    induction n9_2 with
    | zero =>
      intro x2_2 H locs hP hD hS ls hl hrun
      rw [f_X5_haveSlots_L2] at hrun
      cases hrun
    | succ n9_2 ih2 =>
      intro x2_2 H locs hP hD hS ls hl hrun
      rw [f_X5_haveSlots_L2] at hrun
      refine lv_iload_n hx hb dX5_haveSlots_2 rfl (lv_at hl 2 rfl) ?_
      refine lv_bipush (v := 8) hx hb dX5_haveSlots_3 (by decide) ?_
      refine lv_icmp_ge (tgt := 83) hx hb dX5_haveSlots_5 (by decide) (fun c_5 => ?_) (fun c_5 => ?_)
      · rw [if_pos c_5] at hrun
        refine lv_iconst (v := 1) hx hb dX5_haveSlots_83 (by decide) ?_
        have hrun := Option.some.inj hrun
        subst hrun
        rw [hQ]
        exact W.zret (v := 1) (ty := .boolean) hx hb hr rfl (fun t ht hW => ⟨⟨1, (), rfl, rfl, by rw [ht]; exact hP, hD⟩, hS.F ht⟩) hS.2.2 dX5_haveSlots_84
      · rw [if_neg c_5] at hrun
        refine lv_iconst (v := 0) hx hb dX5_haveSlots_8 (by decide) ?_
        refine lv_istore_n (lv' := [(3, .int 0), (0, .ref p_this), (1, .int x1), (2, .int x2_2)]) hx hb dX5_haveSlots_9 rfl hl (by decide) rfl (fun ls hl => ?_)
        refine lv_iconst (v := 0) hx hb dX5_haveSlots_10 (by decide) ?_
        refine lv_istore (lv' := [(4, .int 0), (3, .int 0), (0, .ref p_this), (1, .int x1), (2, .int x2_2)]) hx hb dX5_haveSlots_11 hl (by decide) rfl (fun ls hl => ?_)
        have X63 : ∀ (x3_63 : Int32) (H : Heap) (locs : List Loc), va_P (dC, dI) vwCl [(p_this, .inr (5, [.ref p_text, .ref p_reader, .ref p_told, .ref p_draft, .ref p_now, .ref p_imageZero, .ref p_imageOne, .ref p_slots, .ref p_placesOf, .int d_keptImages, .long d_traced])), (p_slots, .inl (cI, 8, .inl d_slots)), (p_told, .inr (4, [.ref p_told_dishes, .ref p_told_speakers, .ref p_told_noises, .ref p_told_askers])), (p_told_askers, .inr (2, [.int d_told_askers_most, .ref p_told_askers_cells, .int d_told_askers_many])), (p_told_askers_cells, .inl (cI, 48, .inl d_told_askers_cells))] H → va_D A [(p_this, .inr (5, [.ref p_text, .ref p_reader, .ref p_told, .ref p_draft, .ref p_now, .ref p_imageZero, .ref p_imageOne, .ref p_slots, .ref p_placesOf, .int d_keptImages, .long d_traced])), (p_slots, .inl (cI, 8, .inl d_slots)), (p_told, .inr (4, [.ref p_told_dishes, .ref p_told_speakers, .ref p_told_noises, .ref p_told_askers])), (p_told_askers, .inr (2, [.int d_told_askers_most, .ref p_told_askers_cells, .int d_told_askers_many])), (p_told_askers_cells, .inl (cI, 48, .inl d_told_askers_cells))] → va_S A s.heap H locs → ∀ ls : Array Slot, lv_has ls 5 [(0, .ref p_this), (1, .int x1), (2, .int x2_2), (3, .int x3_63)] → f_X5_haveSlots_X63 (f_X5_haveSlots_L2 x1 d_slots d_told_askers_many d_told_askers_cells n9_2) x1 x2_2 d_slots d_told_askers_many d_told_askers_cells x3_63 = some out → W p l e ({ frames := 2, cells := 0, slots := 0, locals := 44 } : Room) s m ([.ref p_this, .int x1] : List Value).toArray below meth c H locs 0 0 Q (F0 m 63 ls []) := by
          intro x3_63 H locs hP hD hS ls hl hrun
          rw [f_X5_haveSlots_X63] at hrun
          refine lv_iload_n hx hb dX5_haveSlots_63 rfl (lv_at hl 3 rfl) ?_
          refine lv_aload_n hx hb dX5_haveSlots_64 rfl (lv_at hl 0 rfl) ?_
          refine va_get (D := (dC, dI)) (ci := 5) (v := .ref p_slots) (C := RX5) (T := TX5) (N := 11) hx hb hts iwX5 hown hK hP 0 rfl rfl 7 (by decide) (hts (.fieldLink RX5 46 "SkyListeners" "slots" "[I") (by decide +kernel)) (fun _ h9 => h9) rfl dX5_haveSlots_65 ?_
          refine lv_iload_n hx hb dX5_haveSlots_68 rfl (lv_at hl 2 rfl) ?_
          have hPc : va_P (dC, dI) vwCl [(p_slots, .inl (cI, 8, .inl d_slots))] H := hP.sub [1] rfl
          have hDc : va_D A [(p_slots, .inl (cI, 8, .inl d_slots))] := hD.sub [1] (by decide) rfl
          have hFc := va_free (wc := [(p_slots, .inl (cI, 8, .inl d_slots))]) hD hS hA [1] rfl
          refine va_calli (va_runS (As := [.ref p_slots, .int x2_2]) (rest := [.int x3_63]) ⟨hx, hb, hml, hown, hts⟩ (c_X5_at l dC dI cI cZ H.size p_slots 8 d_slots x2_2 (by decide) (f_X5_at 8 d_slots x2_2) rfl) (va_cwS 2 hts gX5_haveSlots_X5_at rfl rfl rfl (by decide +kernel) ⟨Nat.le_of_ble_eq_true rfl, Nat.le_of_ble_eq_true rfl⟩) ⟨fun a U g mk q => ⟨q.1, PC.mv q.2⟩, fun U hU hW => ⟨rfl, PC.of hU hW hPc hK hDc hN⟩⟩ rfl rfl hl.1 rfl (lv_room (Nat.le_of_ble_eq_true rfl)) dX5_haveSlots_69 ⟨Nat.zero_le _, Nat.zero_le _⟩) hS (fun q _ h => hFc q h) hFc (fun r_69 u t H1 locs ht hvm hw hB hz1 hk1 hS => ?_)
          obtain ⟨hP1, hD1⟩ := hB
          try dsimp only at hw
          rw [hw]
          rw [ht] at hP1
          have hP : va_P (dC, dI) vwCl [(p_this, .inr (5, [.ref p_text, .ref p_reader, .ref p_told, .ref p_draft, .ref p_now, .ref p_imageZero, .ref p_imageOne, .ref p_slots, .ref p_placesOf, .int d_keptImages, .long d_traced])), (p_slots, .inl (cI, 8, .inl d_slots)), (p_told, .inr (4, [.ref p_told_dishes, .ref p_told_speakers, .ref p_told_noises, .ref p_told_askers])), (p_told_askers, .inr (2, [.int d_told_askers_most, .ref p_told_askers_cells, .int d_told_askers_many])), (p_told_askers_cells, .inl (cI, 48, .inl d_told_askers_cells))] H1 := join_ro hP hD [1] rfl hk1 hP1
          clear hPc hDc hFc hk1 hz1 hP1 hD1 ht hvm
          generalize H1 = H at hP hS ⊢
          refine lv_icmp_le (tgt := 77) hx hb dX5_haveSlots_72 (by decide) (fun c_72 => ?_) (fun c_72 => ?_)
          · rw [if_pos c_72] at hrun
            refine lv_iinc (v := x2_2 + 1) (lv' := [(2, .int (x2_2 + 1)), (0, .ref p_this), (1, .int x1), (3, .int x3_63)]) hx hb dX5_haveSlots_77 hl (k := 2) rfl rfl (by decide) rfl (fun ls hl => ?_)
            refine lv_goto (tgt := 2) hx hb dX5_haveSlots_80 (by decide) ?_
            exact ih2 (x2_2 + 1) H locs hP hD hS ls (lv_sub hl [1, 2, 0] rfl) hrun
          · rw [if_neg c_72] at hrun
            refine lv_iconst (v := 0) hx hb dX5_haveSlots_75 (by decide) ?_
            have hrun := Option.some.inj hrun
            subst hrun
            rw [hQ]
            exact W.zret (v := 0) (ty := .boolean) hx hb hr rfl (fun t ht hW => ⟨⟨0, (), rfl, rfl, by rw [ht]; exact hP, hD⟩, hS.F ht⟩) hS.2.2 dX5_haveSlots_76
        have L13 : ∀ (n9_13 : Nat) (x3_13 : Int32) (x4_13 : Int32) (H : Heap) (locs : List Loc), va_P (dC, dI) vwCl [(p_this, .inr (5, [.ref p_text, .ref p_reader, .ref p_told, .ref p_draft, .ref p_now, .ref p_imageZero, .ref p_imageOne, .ref p_slots, .ref p_placesOf, .int d_keptImages, .long d_traced])), (p_slots, .inl (cI, 8, .inl d_slots)), (p_told, .inr (4, [.ref p_told_dishes, .ref p_told_speakers, .ref p_told_noises, .ref p_told_askers])), (p_told_askers, .inr (2, [.int d_told_askers_most, .ref p_told_askers_cells, .int d_told_askers_many])), (p_told_askers_cells, .inl (cI, 48, .inl d_told_askers_cells))] H → va_D A [(p_this, .inr (5, [.ref p_text, .ref p_reader, .ref p_told, .ref p_draft, .ref p_now, .ref p_imageZero, .ref p_imageOne, .ref p_slots, .ref p_placesOf, .int d_keptImages, .long d_traced])), (p_slots, .inl (cI, 8, .inl d_slots)), (p_told, .inr (4, [.ref p_told_dishes, .ref p_told_speakers, .ref p_told_noises, .ref p_told_askers])), (p_told_askers, .inr (2, [.int d_told_askers_most, .ref p_told_askers_cells, .int d_told_askers_many])), (p_told_askers_cells, .inl (cI, 48, .inl d_told_askers_cells))] → va_S A s.heap H locs → ∀ ls : Array Slot, lv_has ls 5 [(0, .ref p_this), (1, .int x1), (2, .int x2_2), (3, .int x3_13), (4, .int x4_13)] → f_X5_haveSlots_L13 (f_X5_haveSlots_X63 (f_X5_haveSlots_L2 x1 d_slots d_told_askers_many d_told_askers_cells n9_2) x1 x2_2 d_slots d_told_askers_many d_told_askers_cells) x1 x2_2 d_slots d_told_askers_many d_told_askers_cells n9_13 x3_13 x4_13 = some out → W p l e ({ frames := 2, cells := 0, slots := 0, locals := 44 } : Room) s m ([.ref p_this, .int x1] : List Value).toArray below meth c H locs 0 0 Q (F0 m 13 ls []) := by
          intro n9_13
          induction n9_13 with
          | zero =>
            intro x3_13 x4_13 H locs hP hD hS ls hl hrun
            rw [f_X5_haveSlots_L13] at hrun
            cases hrun
          | succ n9_13 ih13 =>
            intro x3_13 x4_13 H locs hP hD hS ls hl hrun
            rw [f_X5_haveSlots_L13] at hrun
            refine lv_iload hx hb dX5_haveSlots_13 (lv_at hl 4 rfl) ?_
            refine lv_aload_n hx hb dX5_haveSlots_15 rfl (lv_at hl 0 rfl) ?_
            refine va_get (D := (dC, dI)) (ci := 5) (v := .ref p_told) (C := RX5) (T := TX5) (N := 11) hx hb hts iwX5 hown hK hP 0 rfl rfl 2 (by decide) (hts (.fieldLink RX5 26 "SkyListeners" "told" "LSkyListeners$Valley;") (by decide +kernel)) (fun _ h9 => h9) rfl dX5_haveSlots_16 ?_
            refine va_get (D := (dC, dI)) (ci := 4) (v := .ref p_told_askers) (C := RX4) (T := TX4) (N := 4) hx hb hts iwX4 hown hK hP 2 rfl rfl 3 (by decide) (hts (.fieldLink RX5 106 "SkyListeners$Valley" "askers" "LSkyListeners$Rows;") (by decide +kernel)) (fun _ h9 => h9) rfl dX5_haveSlots_19 ?_
            refine va_get (D := (dC, dI)) (ci := 2) (v := .int d_told_askers_many) (C := RX2) (T := TX2) (N := 3) hx hb hts iwX2 hown hK hP 3 rfl rfl 2 (by decide) (hts (.fieldLink RX5 136 "SkyListeners$Rows" "many" "I") (by decide +kernel)) (fun _ h9 => h9) rfl dX5_haveSlots_22 ?_
            refine lv_icmp_ge (tgt := 63) hx hb dX5_haveSlots_25 (by decide) (fun c_25 => ?_) (fun c_25 => ?_)
            · rw [if_pos c_25] at hrun
              exact X63 x3_13 H locs hP hD hS ls (lv_sub hl [0, 1, 2, 3] rfl) hrun
            · rw [if_neg c_25] at hrun
              refine lv_iload_n hx hb dX5_haveSlots_28 rfl (lv_at hl 1 rfl) ?_
              refine lv_iload hx hb dX5_haveSlots_29 (lv_at hl 4 rfl) ?_
              have hPc : va_P (dC, dI) vwCl [] H := hP.sub [] rfl
              have hDc : va_D A [] := hD.sub [] (by decide) rfl
              have hFc := va_free (wc := []) hD hS hA [] rfl
              refine va_calli (va_runS (As := [.int x1, .int x4_13]) (rest := []) ⟨hx, hb, hml, hown, hts⟩ (c_X5_hasBit l dC dI cI cZ H.size x1 x4_13 (f_X5_hasBit x1 x4_13) rfl) (va_cwS 2 hts gX5_haveSlots_X5_hasBit rfl rfl rfl (by decide +kernel) ⟨Nat.le_of_ble_eq_true rfl, Nat.le_of_ble_eq_true rfl⟩) ⟨fun a U g mk q => ⟨q.1, PC.mv q.2⟩, fun U hU hW => ⟨rfl, PC.of hU hW hPc hK hDc hN⟩⟩ rfl rfl hl.1 rfl (lv_room (Nat.le_of_ble_eq_true rfl)) dX5_haveSlots_31 ⟨Nat.zero_le _, Nat.zero_le _⟩) hS (fun q _ h => hFc q h) hFc (fun r_31 u t H1 locs ht hvm hw hB hz1 hk1 hS => ?_)
              obtain ⟨hP1, hD1⟩ := hB
              try dsimp only at hw
              rw [hw]
              rw [ht] at hP1
              have hP : va_P (dC, dI) vwCl [(p_this, .inr (5, [.ref p_text, .ref p_reader, .ref p_told, .ref p_draft, .ref p_now, .ref p_imageZero, .ref p_imageOne, .ref p_slots, .ref p_placesOf, .int d_keptImages, .long d_traced])), (p_slots, .inl (cI, 8, .inl d_slots)), (p_told, .inr (4, [.ref p_told_dishes, .ref p_told_speakers, .ref p_told_noises, .ref p_told_askers])), (p_told_askers, .inr (2, [.int d_told_askers_most, .ref p_told_askers_cells, .int d_told_askers_many])), (p_told_askers_cells, .inl (cI, 48, .inl d_told_askers_cells))] H1 := join_ro hP hD [] rfl hk1 hP1
              clear hPc hDc hFc hk1 hz1 hP1 hD1 ht hvm
              generalize H1 = H at hP hS ⊢
              have J57 : ∀ (x3_57 : Int32) (H : Heap) (locs : List Loc), va_P (dC, dI) vwCl [(p_this, .inr (5, [.ref p_text, .ref p_reader, .ref p_told, .ref p_draft, .ref p_now, .ref p_imageZero, .ref p_imageOne, .ref p_slots, .ref p_placesOf, .int d_keptImages, .long d_traced])), (p_slots, .inl (cI, 8, .inl d_slots)), (p_told, .inr (4, [.ref p_told_dishes, .ref p_told_speakers, .ref p_told_noises, .ref p_told_askers])), (p_told_askers, .inr (2, [.int d_told_askers_most, .ref p_told_askers_cells, .int d_told_askers_many])), (p_told_askers_cells, .inl (cI, 48, .inl d_told_askers_cells))] H → va_D A [(p_this, .inr (5, [.ref p_text, .ref p_reader, .ref p_told, .ref p_draft, .ref p_now, .ref p_imageZero, .ref p_imageOne, .ref p_slots, .ref p_placesOf, .int d_keptImages, .long d_traced])), (p_slots, .inl (cI, 8, .inl d_slots)), (p_told, .inr (4, [.ref p_told_dishes, .ref p_told_speakers, .ref p_told_noises, .ref p_told_askers])), (p_told_askers, .inr (2, [.int d_told_askers_most, .ref p_told_askers_cells, .int d_told_askers_many])), (p_told_askers_cells, .inl (cI, 48, .inl d_told_askers_cells))] → va_S A s.heap H locs → ∀ ls : Array Slot, lv_has ls 5 [(0, .ref p_this), (1, .int x1), (2, .int x2_2), (3, .int x3_57), (4, .int x4_13)] → f_X5_haveSlots_J57 (f_X5_haveSlots_L13 (f_X5_haveSlots_X63 (f_X5_haveSlots_L2 x1 d_slots d_told_askers_many d_told_askers_cells n9_2) x1 x2_2 d_slots d_told_askers_many d_told_askers_cells) x1 x2_2 d_slots d_told_askers_many d_told_askers_cells n9_13) x1 x2_2 x4_13 d_slots d_told_askers_many d_told_askers_cells x3_57 = some out → W p l e ({ frames := 2, cells := 0, slots := 0, locals := 44 } : Room) s m ([.ref p_this, .int x1] : List Value).toArray below meth c H locs 0 0 Q (F0 m 57 ls []) := by
                intro x3_57 H locs hP hD hS ls hl hrun
                rw [f_X5_haveSlots_J57] at hrun
                refine lv_iinc (v := x4_13 + 1) (lv' := [(4, .int (x4_13 + 1)), (0, .ref p_this), (1, .int x1), (2, .int x2_2), (3, .int x3_57)]) hx hb dX5_haveSlots_57 hl (k := 4) rfl rfl (by decide) rfl (fun ls hl => ?_)
                refine lv_goto (tgt := 13) hx hb dX5_haveSlots_60 (by decide) ?_
                exact ih13 x3_57 (x4_13 + 1) H locs hP hD hS ls (lv_sub hl [1, 2, 3, 4, 0] rfl) hrun
              refine lv_if_eq (tgt := 57) hx hb dX5_haveSlots_34 (by decide) (fun c_34 => ?_) (fun c_34 => ?_)
              · rw [if_pos c_34] at hrun
                exact J57 x3_13 H locs hP hD hS ls hl hrun
              · rw [if_neg c_34] at hrun
                refine lv_aload_n hx hb dX5_haveSlots_37 rfl (lv_at hl 0 rfl) ?_
                refine va_get (D := (dC, dI)) (ci := 5) (v := .ref p_told) (C := RX5) (T := TX5) (N := 11) hx hb hts iwX5 hown hK hP 0 rfl rfl 2 (by decide) (hts (.fieldLink RX5 26 "SkyListeners" "told" "LSkyListeners$Valley;") (by decide +kernel)) (fun _ h9 => h9) rfl dX5_haveSlots_38 ?_
                refine va_get (D := (dC, dI)) (ci := 4) (v := .ref p_told_askers) (C := RX4) (T := TX4) (N := 4) hx hb hts iwX4 hown hK hP 2 rfl rfl 3 (by decide) (hts (.fieldLink RX5 106 "SkyListeners$Valley" "askers" "LSkyListeners$Rows;") (by decide +kernel)) (fun _ h9 => h9) rfl dX5_haveSlots_41 ?_
                refine lv_iload hx hb dX5_haveSlots_44 (lv_at hl 4 rfl) ?_
                refine lv_iconst (v := 0) hx hb dX5_haveSlots_46 (by decide) ?_
                have hPc : va_P (dC, dI) vwCl [(p_told_askers, .inr (2, [.int d_told_askers_most, .ref p_told_askers_cells, .int d_told_askers_many])), (p_told_askers_cells, .inl (cI, 48, .inl d_told_askers_cells))] H := hP.sub [3, 4] rfl
                have hDc : va_D A [(p_told_askers, .inr (2, [.int d_told_askers_most, .ref p_told_askers_cells, .int d_told_askers_many])), (p_told_askers_cells, .inl (cI, 48, .inl d_told_askers_cells))] := hD.sub [3, 4] (by decide) rfl
                have hFc := va_free (wc := [(p_told_askers, .inr (2, [.int d_told_askers_most, .ref p_told_askers_cells, .int d_told_askers_many])), (p_told_askers_cells, .inl (cI, 48, .inl d_told_askers_cells))]) hD hS hA [3, 4] rfl
                refine va_calli (va_runV (As := [.int x4_13, .int 0]) (rest := []) ⟨hx, hb, hml, hown, hts⟩ (c_X2_number l dC dI cI cZ H.size p_told_askers_cells p_told_askers d_told_askers_most d_told_askers_many d_told_askers_cells x4_13 0 (f_X2_number d_told_askers_many d_told_askers_cells x4_13 0) rfl) (cwV 2 hts gX5_haveSlots_X2_number rfl rfl rfl (by decide +kernel) ⟨Nat.le_of_ble_eq_true rfl, Nat.le_of_ble_eq_true rfl⟩) ⟨fun a U g mk q => ⟨q.1, PC.mv q.2⟩, va_recv hK hP (ci := 2) (q0 := 3) rfl rfl, fun U hU hW => ⟨rfl, PC.of hU hW hPc hK hDc hN⟩⟩ rfl rfl hl.1 rfl (lv_room (Nat.le_of_ble_eq_true rfl)) dX5_haveSlots_47 ⟨Nat.zero_le _, Nat.zero_le _⟩) hS (fun q _ h => hFc q h) hFc (fun r_47 u t H1 locs ht hvm hw hB hz1 hk1 hS => ?_)
                obtain ⟨hP1, hD1⟩ := hB
                try dsimp only at hw
                rw [hw]
                rw [ht] at hP1
                have hP : va_P (dC, dI) vwCl [(p_this, .inr (5, [.ref p_text, .ref p_reader, .ref p_told, .ref p_draft, .ref p_now, .ref p_imageZero, .ref p_imageOne, .ref p_slots, .ref p_placesOf, .int d_keptImages, .long d_traced])), (p_slots, .inl (cI, 8, .inl d_slots)), (p_told, .inr (4, [.ref p_told_dishes, .ref p_told_speakers, .ref p_told_noises, .ref p_told_askers])), (p_told_askers, .inr (2, [.int d_told_askers_most, .ref p_told_askers_cells, .int d_told_askers_many])), (p_told_askers_cells, .inl (cI, 48, .inl d_told_askers_cells))] H1 := join_ro hP hD [3, 4] rfl hk1 hP1
                clear hPc hDc hFc hk1 hz1 hP1 hD1 ht hvm
                generalize H1 = H at hP hS ⊢
                refine lv_iload_n hx hb dX5_haveSlots_50 rfl (lv_at hl 2 rfl) ?_
                refine lv_icmp_ne (tgt := 57) hx hb dX5_haveSlots_51 (by decide) (fun c_51 => ?_) (fun c_51 => ?_)
                · rw [if_neg c_51] at hrun
                  exact J57 x3_13 H locs hP hD hS ls hl hrun
                · rw [if_pos c_51] at hrun
                  refine lv_iinc (v := x3_13 + 1) (lv' := [(3, .int (x3_13 + 1)), (0, .ref p_this), (1, .int x1), (2, .int x2_2), (4, .int x4_13)]) hx hb dX5_haveSlots_54 hl (k := 3) rfl rfl (by decide) rfl (fun ls hl => ?_)
                  exact J57 (x3_13 + 1) H locs hP hD hS ls (lv_sub hl [1, 2, 3, 0, 4] rfl) hrun
        exact L13 FU 0 0 H locs hP hD hS ls (lv_sub hl [2, 3, 4, 1, 0] rfl) hrun
  exact L2 FU 0 H locs hP hD hS ls (lv_sub hl [1, 2, 0] rfl) hrun
-- SkyListeners.bestAskers
def f_X5_bestAskers_J54 (K11 : Int32 → Int32 → Option (Int32 × (Nat → Int32))) (x4 : Int32) (d_slots : Nat → Int32) (d_told_askers_many : Int32) (d_told_askers_cells : Nat → Int32) (x3 : Int32) : Option (Int32 × (Nat → Int32)) := (K11 x3 (x4 + 1))
def f_X5_bestAskers_L11 (d_slots : Nat → Int32) (d_told_askers_many : Int32) (d_told_askers_cells : Nat → Int32) : Nat → Int32 → Int32 → Option (Int32 × (Nat → Int32))
  | 0, _, _ => none
  | n9 + 1, x3, x4 => (if (1 <<< (d_told_askers_many &&& 31)) ≤ x4 then (some (x3, d_slots)) else ((f_X5_sureOf d_told_askers_many d_told_askers_cells x4).bind fun q31 => ((f_X5_sureOf d_told_askers_many d_told_askers_cells x3).bind fun q36 => (if q31 ≤ q36 then (f_X5_bestAskers_J54 (f_X5_bestAskers_L11  d_slots d_told_askers_many d_told_askers_cells n9) x4 d_slots d_told_askers_many d_told_askers_cells x3) else ((f_X5_haveSlots d_slots d_told_askers_many d_told_askers_cells x4).bind fun q45 => (if q45 = 0 then (f_X5_bestAskers_J54 (f_X5_bestAskers_L11  d_slots d_told_askers_many d_told_askers_cells n9) x4 d_slots d_told_askers_many d_told_askers_cells x3) else (f_X5_bestAskers_J54 (f_X5_bestAskers_L11  d_slots d_told_askers_many d_told_askers_cells n9) x4 d_slots d_told_askers_many d_told_askers_cells x4)))))))
def f_X5_bestAskers (d_now_mounts_many : Int32) (d_now_mounts_cells : Nat → Int32) (d_slots : Nat → Int32) (d_told_askers_many : Int32) (d_told_askers_cells : Nat → Int32) (x1 : Int32) (x2 : Int32) : Option (Int32 × (Nat → Int32)) := ((f_X5_countSlots d_now_mounts_many d_now_mounts_cells d_slots x1 x2).bind fun q3 => (f_X5_bestAskers_L11 q3 d_told_askers_many d_told_askers_cells FU 0 1))
set_option maxHeartbeats 4000000 in
set_option maxRecDepth 100000 in
theorem c_X5_bestAskers (l : Launch) (dC : Nat → ClassId) (dI : Nat → Nat → Nat) (cI cZ : ClassId) (sz : Nat) (p_draft p_imageOne p_imageZero p_now p_now_lendings p_now_log p_now_mounts p_now_mounts_cells p_now_undos p_placesOf p_reader p_slots p_text p_this p_told p_told_askers p_told_askers_cells p_told_dishes p_told_noises p_told_speakers : Nat) (d_keptImages : Int32) (d_traced : Int64) (d_now_mounts_most : Int32) (d_now_mounts_many : Int32) (d_now_mounts_cells : Nat → Int32) (d_slots : Nat → Int32) (d_told_askers_most : Int32) (d_told_askers_many : Int32) (d_told_askers_cells : Nat → Int32) (x1 : Int32) (x2 : Int32) (out : Int32 × (Nat → Int32)) (hrun : f_X5_bestAskers d_now_mounts_many d_now_mounts_cells d_slots d_told_askers_many d_told_askers_cells x1 x2 = some out) : Met l yX5_bestAskers wsX5_bestAskers ({ frames := 4, cells := 0, slots := 0, locals := 91 } : Room) (va_Pc [.ref p_this, .int x1, .int x2] (PC dC dI cI cZ sz ([(p_this, .inr (5, [.ref p_text, .ref p_reader, .ref p_told, .ref p_draft, .ref p_now, .ref p_imageZero, .ref p_imageOne, .ref p_slots, .ref p_placesOf, .int d_keptImages, .long d_traced])), (p_now, .inr (0, [.ref p_now_mounts, .ref p_now_lendings, .ref p_now_log, .ref p_now_undos])), (p_now_mounts, .inr (2, [.int d_now_mounts_most, .ref p_now_mounts_cells, .int d_now_mounts_many])), (p_now_mounts_cells, .inl (cI, 48, .inl d_now_mounts_cells)), (p_slots, .inl (cI, 8, .inl d_slots)), (p_told, .inr (4, [.ref p_told_dishes, .ref p_told_speakers, .ref p_told_noises, .ref p_told_askers])), (p_told_askers, .inr (2, [.int d_told_askers_most, .ref p_told_askers_cells, .int d_told_askers_many])), (p_told_askers_cells, .inl (cI, 48, .inl d_told_askers_cells))] : va_W))) (va_Qi (fun r (_ : Unit) => r = out.1) (fun _ t => va_P (dC, dI) vwCl [(p_this, .inr (5, [.ref p_text, .ref p_reader, .ref p_told, .ref p_draft, .ref p_now, .ref p_imageZero, .ref p_imageOne, .ref p_slots, .ref p_placesOf, .int d_keptImages, .long d_traced])), (p_now, .inr (0, [.ref p_now_mounts, .ref p_now_lendings, .ref p_now_log, .ref p_now_undos])), (p_now_mounts, .inr (2, [.int d_now_mounts_most, .ref p_now_mounts_cells, .int d_now_mounts_many])), (p_now_mounts_cells, .inl (cI, 48, .inl d_now_mounts_cells)), (p_slots, .inl (cI, 8, .inl out.2)), (p_told, .inr (4, [.ref p_told_dishes, .ref p_told_speakers, .ref p_told_noises, .ref p_told_askers])), (p_told_askers, .inr (2, [.int d_told_askers_most, .ref p_told_askers_cells, .int d_told_askers_many])), (p_told_askers_cells, .inl (cI, 48, .inl d_told_askers_cells))] t.heap ∧ va_D (va_A ([(p_this, .inr (5, [.ref p_text, .ref p_reader, .ref p_told, .ref p_draft, .ref p_now, .ref p_imageZero, .ref p_imageOne, .ref p_slots, .ref p_placesOf, .int d_keptImages, .long d_traced])), (p_now, .inr (0, [.ref p_now_mounts, .ref p_now_lendings, .ref p_now_log, .ref p_now_undos])), (p_now_mounts, .inr (2, [.int d_now_mounts_most, .ref p_now_mounts_cells, .int d_now_mounts_many])), (p_now_mounts_cells, .inl (cI, 48, .inl d_now_mounts_cells)), (p_slots, .inl (cI, 8, .inl d_slots)), (p_told, .inr (4, [.ref p_told_dishes, .ref p_told_speakers, .ref p_told_noises, .ref p_told_askers])), (p_told_askers, .inr (2, [.int d_told_askers_most, .ref p_told_askers_cells, .int d_told_askers_many])), (p_told_askers_cells, .inl (cI, 48, .inl d_told_askers_cells))] : va_W) sz) [(p_this, .inr (5, [.ref p_text, .ref p_reader, .ref p_told, .ref p_draft, .ref p_now, .ref p_imageZero, .ref p_imageOne, .ref p_slots, .ref p_placesOf, .int d_keptImages, .long d_traced])), (p_now, .inr (0, [.ref p_now_mounts, .ref p_now_lendings, .ref p_now_log, .ref p_now_undos])), (p_now_mounts, .inr (2, [.int d_now_mounts_most, .ref p_now_mounts_cells, .int d_now_mounts_many])), (p_now_mounts_cells, .inl (cI, 48, .inl d_now_mounts_cells)), (p_slots, .inl (cI, 8, .inl out.2)), (p_told, .inr (4, [.ref p_told_dishes, .ref p_told_speakers, .ref p_told_noises, .ref p_told_askers])), (p_told_askers, .inr (2, [.int d_told_askers_most, .ref p_told_askers_cells, .int d_told_askers_many])), (p_told_askers_cells, .inl (cI, 48, .inl d_told_askers_cells))]) (va_A ([(p_this, .inr (5, [.ref p_text, .ref p_reader, .ref p_told, .ref p_draft, .ref p_now, .ref p_imageZero, .ref p_imageOne, .ref p_slots, .ref p_placesOf, .int d_keptImages, .long d_traced])), (p_now, .inr (0, [.ref p_now_mounts, .ref p_now_lendings, .ref p_now_log, .ref p_now_undos])), (p_now_mounts, .inr (2, [.int d_now_mounts_most, .ref p_now_mounts_cells, .int d_now_mounts_many])), (p_now_mounts_cells, .inl (cI, 48, .inl d_now_mounts_cells)), (p_slots, .inl (cI, 8, .inl d_slots)), (p_told, .inr (4, [.ref p_told_dishes, .ref p_told_speakers, .ref p_told_noises, .ref p_told_askers])), (p_told_askers, .inr (2, [.int d_told_askers_most, .ref p_told_askers_cells, .int d_told_askers_many])), (p_told_askers_cells, .inl (cI, 48, .inl d_told_askers_cells))] : va_W) sz)) 0 0 (va_A ([(p_this, .inr (5, [.ref p_text, .ref p_reader, .ref p_told, .ref p_draft, .ref p_now, .ref p_imageZero, .ref p_imageOne, .ref p_slots, .ref p_placesOf, .int d_keptImages, .long d_traced])), (p_now, .inr (0, [.ref p_now_mounts, .ref p_now_lendings, .ref p_now_log, .ref p_now_undos])), (p_now_mounts, .inr (2, [.int d_now_mounts_most, .ref p_now_mounts_cells, .int d_now_mounts_many])), (p_now_mounts_cells, .inl (cI, 48, .inl d_now_mounts_cells)), (p_slots, .inl (cI, 8, .inl d_slots)), (p_told, .inr (4, [.ref p_told_dishes, .ref p_told_speakers, .ref p_told_noises, .ref p_told_askers])), (p_told_askers, .inr (2, [.int d_told_askers_most, .ref p_told_askers_cells, .int d_told_askers_many])), (p_told_askers_cells, .inl (cI, 48, .inl d_told_askers_cells))] : va_W) sz) := by
  refine Met.ofW (cc := cX5_bestAskers) (maxL := 5) (ret := (some .int)) (by decide) rfl ?_
  intro p e s m args below meth c s₁ B hml hv
  obtain ⟨rfl, hsz, hP, hK, hD0, hN⟩ := hv
  have hx := B.exec
  have hb := B.bytes
  have hr := B.returns
  have hts := atoms_spec (ws := wsX5_bestAskers) B.pre
  have hown : s.vm.findClass RX5 = some m.cls := findClass_of_methodNamed B.named
  have hlocks := B.notSynchronized
  subst hsz
  have hD := hD0.self (sz := s.heap.size)
  generalize hAe : va_A ([(p_this, .inr (5, [.ref p_text, .ref p_reader, .ref p_told, .ref p_draft, .ref p_now, .ref p_imageZero, .ref p_imageOne, .ref p_slots, .ref p_placesOf, .int d_keptImages, .long d_traced])), (p_now, .inr (0, [.ref p_now_mounts, .ref p_now_lendings, .ref p_now_log, .ref p_now_undos])), (p_now_mounts, .inr (2, [.int d_now_mounts_most, .ref p_now_mounts_cells, .int d_now_mounts_many])), (p_now_mounts_cells, .inl (cI, 48, .inl d_now_mounts_cells)), (p_slots, .inl (cI, 8, .inl d_slots)), (p_told, .inr (4, [.ref p_told_dishes, .ref p_told_speakers, .ref p_told_noises, .ref p_told_askers])), (p_told_askers, .inr (2, [.int d_told_askers_most, .ref p_told_askers_cells, .int d_told_askers_many])), (p_told_askers_cells, .inl (cI, 48, .inl d_told_askers_cells))] : va_W) s.heap.size = A at hD ⊢
  have hA : ∀ q : Nat, s.heap.size ≤ q → A q := fun q h => by rw [← hAe]; exact Or.inr h
  have hS : va_S A s.heap s.heap [] := va_S.rf
  refine W_abs (fun Q hQ => ?_)
  have hl := lv_entry ([.ref p_this, .int x1, .int x2]) (n := 5) (Nat.le_of_ble_eq_true rfl)
  rw [lg_entry_eq]
  generalize (lg_sl ([.ref p_this, .int x1, .int x2]) ++ List.replicate (5 - (lg_sl ([.ref p_this, .int x1, .int x2])).length) Slot.unset).toArray = ls at hl ⊢
  have hl : lv_has ls 5 [(0, .ref p_this), (1, .int x1), (2, .int x2)] := hl
  rw [f_X5_bestAskers] at hrun
  refine W_start (ws := [(p_this, .inr (5, [.ref p_text, .ref p_reader, .ref p_told, .ref p_draft, .ref p_now, .ref p_imageZero, .ref p_imageOne, .ref p_slots, .ref p_placesOf, .int d_keptImages, .long d_traced])), (p_now, .inr (0, [.ref p_now_mounts, .ref p_now_lendings, .ref p_now_log, .ref p_now_undos])), (p_now_mounts, .inr (2, [.int d_now_mounts_most, .ref p_now_mounts_cells, .int d_now_mounts_many])), (p_now_mounts_cells, .inl (cI, 48, .inl d_now_mounts_cells)), (p_slots, .inl (cI, 8, .inl d_slots)), (p_told, .inr (4, [.ref p_told_dishes, .ref p_told_speakers, .ref p_told_noises, .ref p_told_askers])), (p_told_askers, .inr (2, [.int d_told_askers_most, .ref p_told_askers_cells, .int d_told_askers_many])), (p_told_askers_cells, .inl (cI, 48, .inl d_told_askers_cells))]) hP hS (fun H locs hP hS => ?_)
  have iwX2 : ∀ w ∈ wsX20, w ∈ wsX5_bestAskers := by decide +kernel
  have iwX4 : ∀ w ∈ wsX40, w ∈ wsX5_bestAskers := by decide +kernel
  have iwX5 : ∀ w ∈ wsX50, w ∈ wsX5_bestAskers := by decide +kernel
  refine lv_aload_n hx hb dX5_bestAskers_0 rfl (lv_at hl 0 rfl) ?_
  refine lv_iload_n hx hb dX5_bestAskers_1 rfl (lv_at hl 1 rfl) ?_
  refine lv_iload_n hx hb dX5_bestAskers_2 rfl (lv_at hl 2 rfl) ?_
  obtain ⟨q3, hq3, hrun⟩ := bind_out hrun
  have hPc : va_P (dC, dI) vwCl [(p_this, .inr (5, [.ref p_text, .ref p_reader, .ref p_told, .ref p_draft, .ref p_now, .ref p_imageZero, .ref p_imageOne, .ref p_slots, .ref p_placesOf, .int d_keptImages, .long d_traced])), (p_now, .inr (0, [.ref p_now_mounts, .ref p_now_lendings, .ref p_now_log, .ref p_now_undos])), (p_now_mounts, .inr (2, [.int d_now_mounts_most, .ref p_now_mounts_cells, .int d_now_mounts_many])), (p_now_mounts_cells, .inl (cI, 48, .inl d_now_mounts_cells)), (p_slots, .inl (cI, 8, .inl d_slots))] H := hP.sub [0, 1, 2, 3, 4] rfl
  have hDc : va_D A [(p_this, .inr (5, [.ref p_text, .ref p_reader, .ref p_told, .ref p_draft, .ref p_now, .ref p_imageZero, .ref p_imageOne, .ref p_slots, .ref p_placesOf, .int d_keptImages, .long d_traced])), (p_now, .inr (0, [.ref p_now_mounts, .ref p_now_lendings, .ref p_now_log, .ref p_now_undos])), (p_now_mounts, .inr (2, [.int d_now_mounts_most, .ref p_now_mounts_cells, .int d_now_mounts_many])), (p_now_mounts_cells, .inl (cI, 48, .inl d_now_mounts_cells)), (p_slots, .inl (cI, 8, .inl d_slots))] := hD.sub [0, 1, 2, 3, 4] (by decide) rfl
  have hFc := va_free (wc := [(p_this, .inr (5, [.ref p_text, .ref p_reader, .ref p_told, .ref p_draft, .ref p_now, .ref p_imageZero, .ref p_imageOne, .ref p_slots, .ref p_placesOf, .int d_keptImages, .long d_traced])), (p_now, .inr (0, [.ref p_now_mounts, .ref p_now_lendings, .ref p_now_log, .ref p_now_undos])), (p_now_mounts, .inr (2, [.int d_now_mounts_most, .ref p_now_mounts_cells, .int d_now_mounts_many])), (p_now_mounts_cells, .inl (cI, 48, .inl d_now_mounts_cells)), (p_slots, .inl (cI, 8, .inl d_slots))]) hD hS hA [0, 1, 2, 3, 4] rfl
  refine va_callv (va_runV (As := [.int x1, .int x2]) (rest := []) ⟨hx, hb, hml, hown, hts⟩ (c_X5_countSlots l dC dI cI cZ H.size p_draft p_imageOne p_imageZero p_now p_now_lendings p_now_log p_now_mounts p_now_mounts_cells p_now_undos p_placesOf p_reader p_slots p_text p_this p_told d_keptImages d_traced d_now_mounts_most d_now_mounts_many d_now_mounts_cells d_slots x1 x2 q3 hq3) (cwV 2 hts gX5_bestAskers_X5_countSlots rfl rfl rfl (by decide +kernel) ⟨Nat.le_of_ble_eq_true rfl, Nat.le_of_ble_eq_true rfl⟩) ⟨fun a U g mk q => ⟨q.1, PC.mv q.2⟩, va_recv hK hP (ci := 5) (q0 := 0) rfl rfl, fun U hU hW => ⟨rfl, PC.of hU hW hPc hK hDc hN⟩⟩ rfl rfl hl.1 rfl (lv_room (Nat.le_of_ble_eq_true rfl)) dX5_bestAskers_3 ⟨Nat.zero_le _, Nat.zero_le _⟩) hS (fun q _ h => hFc q h) hFc (fun u t H1 locs ht hvm hw hB hz1 hk1 hS => ?_)
  obtain ⟨hP1, hD1⟩ := hB
  rw [ht] at hP1
  obtain ⟨hP, hD⟩ := va_join (wr := [(p_told, .inr (4, [.ref p_told_dishes, .ref p_told_speakers, .ref p_told_noises, .ref p_told_askers])), (p_told_askers, .inr (2, [.int d_told_askers_most, .ref p_told_askers_cells, .int d_told_askers_many])), (p_told_askers_cells, .inl (cI, 48, .inl d_told_askers_cells))]) (w1 := [(p_this, .inr (5, [.ref p_text, .ref p_reader, .ref p_told, .ref p_draft, .ref p_now, .ref p_imageZero, .ref p_imageOne, .ref p_slots, .ref p_placesOf, .int d_keptImages, .long d_traced])), (p_now, .inr (0, [.ref p_now_mounts, .ref p_now_lendings, .ref p_now_log, .ref p_now_undos])), (p_now_mounts, .inr (2, [.int d_now_mounts_most, .ref p_now_mounts_cells, .int d_now_mounts_many])), (p_now_mounts_cells, .inl (cI, 48, .inl d_now_mounts_cells)), (p_slots, .inl (cI, 8, .inl q3))]) hP hD [0, 1, 2, 3, 4] [5, 6, 7] rfl rfl (by decide) (by decide) hk1 hFc hP1 hD1
  have hP : va_P (dC, dI) vwCl [(p_this, .inr (5, [.ref p_text, .ref p_reader, .ref p_told, .ref p_draft, .ref p_now, .ref p_imageZero, .ref p_imageOne, .ref p_slots, .ref p_placesOf, .int d_keptImages, .long d_traced])), (p_now, .inr (0, [.ref p_now_mounts, .ref p_now_lendings, .ref p_now_log, .ref p_now_undos])), (p_now_mounts, .inr (2, [.int d_now_mounts_most, .ref p_now_mounts_cells, .int d_now_mounts_many])), (p_now_mounts_cells, .inl (cI, 48, .inl d_now_mounts_cells)), (p_slots, .inl (cI, 8, .inl q3)), (p_told, .inr (4, [.ref p_told_dishes, .ref p_told_speakers, .ref p_told_noises, .ref p_told_askers])), (p_told_askers, .inr (2, [.int d_told_askers_most, .ref p_told_askers_cells, .int d_told_askers_many])), (p_told_askers_cells, .inl (cI, 48, .inl d_told_askers_cells))] H1 := hP.sub [3, 4, 5, 6, 7, 0, 1, 2] rfl
  have hD : va_D A [(p_this, .inr (5, [.ref p_text, .ref p_reader, .ref p_told, .ref p_draft, .ref p_now, .ref p_imageZero, .ref p_imageOne, .ref p_slots, .ref p_placesOf, .int d_keptImages, .long d_traced])), (p_now, .inr (0, [.ref p_now_mounts, .ref p_now_lendings, .ref p_now_log, .ref p_now_undos])), (p_now_mounts, .inr (2, [.int d_now_mounts_most, .ref p_now_mounts_cells, .int d_now_mounts_many])), (p_now_mounts_cells, .inl (cI, 48, .inl d_now_mounts_cells)), (p_slots, .inl (cI, 8, .inl q3)), (p_told, .inr (4, [.ref p_told_dishes, .ref p_told_speakers, .ref p_told_noises, .ref p_told_askers])), (p_told_askers, .inr (2, [.int d_told_askers_most, .ref p_told_askers_cells, .int d_told_askers_many])), (p_told_askers_cells, .inl (cI, 48, .inl d_told_askers_cells))] := hD.sub [3, 4, 5, 6, 7, 0, 1, 2] (by decide) rfl
  clear hPc hDc hFc hk1 hz1 hP1 hD1 ht hvm
  generalize H1 = H at hP hS ⊢
  refine lv_iconst (v := 0) hx hb dX5_bestAskers_6 (by decide) ?_
  refine lv_istore_n (lv' := [(3, .int 0), (0, .ref p_this), (1, .int x1), (2, .int x2)]) hx hb dX5_bestAskers_7 rfl hl (by decide) rfl (fun ls hl => ?_)
  refine lv_iconst (v := 1) hx hb dX5_bestAskers_8 (by decide) ?_
  refine lv_istore (lv' := [(4, .int 1), (3, .int 0), (0, .ref p_this), (1, .int x1), (2, .int x2)]) hx hb dX5_bestAskers_9 hl (by decide) rfl (fun ls hl => ?_)
  have L11 : ∀ (n9_11 : Nat) (x3_11 : Int32) (x4_11 : Int32) (H : Heap) (locs : List Loc), va_P (dC, dI) vwCl [(p_this, .inr (5, [.ref p_text, .ref p_reader, .ref p_told, .ref p_draft, .ref p_now, .ref p_imageZero, .ref p_imageOne, .ref p_slots, .ref p_placesOf, .int d_keptImages, .long d_traced])), (p_now, .inr (0, [.ref p_now_mounts, .ref p_now_lendings, .ref p_now_log, .ref p_now_undos])), (p_now_mounts, .inr (2, [.int d_now_mounts_most, .ref p_now_mounts_cells, .int d_now_mounts_many])), (p_now_mounts_cells, .inl (cI, 48, .inl d_now_mounts_cells)), (p_slots, .inl (cI, 8, .inl q3)), (p_told, .inr (4, [.ref p_told_dishes, .ref p_told_speakers, .ref p_told_noises, .ref p_told_askers])), (p_told_askers, .inr (2, [.int d_told_askers_most, .ref p_told_askers_cells, .int d_told_askers_many])), (p_told_askers_cells, .inl (cI, 48, .inl d_told_askers_cells))] H → va_D A [(p_this, .inr (5, [.ref p_text, .ref p_reader, .ref p_told, .ref p_draft, .ref p_now, .ref p_imageZero, .ref p_imageOne, .ref p_slots, .ref p_placesOf, .int d_keptImages, .long d_traced])), (p_now, .inr (0, [.ref p_now_mounts, .ref p_now_lendings, .ref p_now_log, .ref p_now_undos])), (p_now_mounts, .inr (2, [.int d_now_mounts_most, .ref p_now_mounts_cells, .int d_now_mounts_many])), (p_now_mounts_cells, .inl (cI, 48, .inl d_now_mounts_cells)), (p_slots, .inl (cI, 8, .inl q3)), (p_told, .inr (4, [.ref p_told_dishes, .ref p_told_speakers, .ref p_told_noises, .ref p_told_askers])), (p_told_askers, .inr (2, [.int d_told_askers_most, .ref p_told_askers_cells, .int d_told_askers_many])), (p_told_askers_cells, .inl (cI, 48, .inl d_told_askers_cells))] → va_S A s.heap H locs → ∀ ls : Array Slot, lv_has ls 5 [(0, .ref p_this), (3, .int x3_11), (4, .int x4_11)] → f_X5_bestAskers_L11 q3 d_told_askers_many d_told_askers_cells n9_11 x3_11 x4_11 = some out → W p l e ({ frames := 4, cells := 0, slots := 0, locals := 91 } : Room) s m ([.ref p_this, .int x1, .int x2] : List Value).toArray below meth c H locs 0 0 Q (F0 m 11 ls []) := by
    intro n9_11
    induction n9_11 with
    | zero =>
      intro x3_11 x4_11 H locs hP hD hS ls hl hrun
      rw [f_X5_bestAskers_L11] at hrun
      cases hrun
    | succ n9_11 ih11 =>
      intro x3_11 x4_11 H locs hP hD hS ls hl hrun
      rw [f_X5_bestAskers_L11] at hrun
      refine lv_iload hx hb dX5_bestAskers_11 (lv_at hl 2 rfl) ?_
      refine lv_iconst (v := 1) hx hb dX5_bestAskers_13 (by decide) ?_
      refine lv_aload_n hx hb dX5_bestAskers_14 rfl (lv_at hl 0 rfl) ?_
      refine va_get (D := (dC, dI)) (ci := 5) (v := .ref p_told) (C := RX5) (T := TX5) (N := 11) hx hb hts iwX5 hown hK hP 0 rfl rfl 2 (by decide) (hts (.fieldLink RX5 26 "SkyListeners" "told" "LSkyListeners$Valley;") (by decide +kernel)) (fun _ h9 => h9) rfl dX5_bestAskers_15 ?_
      refine va_get (D := (dC, dI)) (ci := 4) (v := .ref p_told_askers) (C := RX4) (T := TX4) (N := 4) hx hb hts iwX4 hown hK hP 5 rfl rfl 3 (by decide) (hts (.fieldLink RX5 106 "SkyListeners$Valley" "askers" "LSkyListeners$Rows;") (by decide +kernel)) (fun _ h9 => h9) rfl dX5_bestAskers_18 ?_
      refine va_get (D := (dC, dI)) (ci := 2) (v := .int d_told_askers_many) (C := RX2) (T := TX2) (N := 3) hx hb hts iwX2 hown hK hP 6 rfl rfl 2 (by decide) (hts (.fieldLink RX5 136 "SkyListeners$Rows" "many" "I") (by decide +kernel)) (fun _ h9 => h9) rfl dX5_bestAskers_21 ?_
      refine lv_ishl hx hb dX5_bestAskers_24 ?_
      refine lv_icmp_ge (tgt := 60) hx hb dX5_bestAskers_25 (by decide) (fun c_25 => ?_) (fun c_25 => ?_)
      · rw [if_pos c_25] at hrun
        refine lv_iload_n hx hb dX5_bestAskers_60 rfl (lv_at hl 1 rfl) ?_
        have hrun := Option.some.inj hrun
        subst hrun
        rw [hQ]
        exact W.iret (v := x3_11) hx hb hr (fun t ht hW => ⟨⟨x3_11, (), rfl, rfl, by rw [ht]; exact hP, hD⟩, hS.F ht⟩) hS.2.2 dX5_bestAskers_61
      · rw [if_neg c_25] at hrun
        refine lv_aload_n hx hb dX5_bestAskers_28 rfl (lv_at hl 0 rfl) ?_
        refine lv_iload hx hb dX5_bestAskers_29 (lv_at hl 2 rfl) ?_
        obtain ⟨q31, hq31, hrun⟩ := bind_out hrun
        have hPc : va_P (dC, dI) vwCl [(p_this, .inr (5, [.ref p_text, .ref p_reader, .ref p_told, .ref p_draft, .ref p_now, .ref p_imageZero, .ref p_imageOne, .ref p_slots, .ref p_placesOf, .int d_keptImages, .long d_traced])), (p_told, .inr (4, [.ref p_told_dishes, .ref p_told_speakers, .ref p_told_noises, .ref p_told_askers])), (p_told_askers, .inr (2, [.int d_told_askers_most, .ref p_told_askers_cells, .int d_told_askers_many])), (p_told_askers_cells, .inl (cI, 48, .inl d_told_askers_cells))] H := hP.sub [0, 5, 6, 7] rfl
        have hDc : va_D A [(p_this, .inr (5, [.ref p_text, .ref p_reader, .ref p_told, .ref p_draft, .ref p_now, .ref p_imageZero, .ref p_imageOne, .ref p_slots, .ref p_placesOf, .int d_keptImages, .long d_traced])), (p_told, .inr (4, [.ref p_told_dishes, .ref p_told_speakers, .ref p_told_noises, .ref p_told_askers])), (p_told_askers, .inr (2, [.int d_told_askers_most, .ref p_told_askers_cells, .int d_told_askers_many])), (p_told_askers_cells, .inl (cI, 48, .inl d_told_askers_cells))] := hD.sub [0, 5, 6, 7] (by decide) rfl
        have hFc := va_free (wc := [(p_this, .inr (5, [.ref p_text, .ref p_reader, .ref p_told, .ref p_draft, .ref p_now, .ref p_imageZero, .ref p_imageOne, .ref p_slots, .ref p_placesOf, .int d_keptImages, .long d_traced])), (p_told, .inr (4, [.ref p_told_dishes, .ref p_told_speakers, .ref p_told_noises, .ref p_told_askers])), (p_told_askers, .inr (2, [.int d_told_askers_most, .ref p_told_askers_cells, .int d_told_askers_many])), (p_told_askers_cells, .inl (cI, 48, .inl d_told_askers_cells))]) hD hS hA [0, 5, 6, 7] rfl
        refine va_calli (va_runV (As := [.int x4_11]) (rest := []) ⟨hx, hb, hml, hown, hts⟩ (c_X5_sureOf l dC dI cI cZ H.size p_draft p_imageOne p_imageZero p_now p_placesOf p_reader p_slots p_text p_this p_told p_told_askers p_told_askers_cells p_told_dishes p_told_noises p_told_speakers d_keptImages d_traced d_told_askers_most d_told_askers_many d_told_askers_cells x4_11 q31 hq31) (cwV 1 hts gX5_bestAskers_X5_sureOf rfl rfl rfl (by decide +kernel) ⟨Nat.le_of_ble_eq_true rfl, Nat.le_of_ble_eq_true rfl⟩) ⟨fun a U g mk q => ⟨q.1, PC.mv q.2⟩, va_recv hK hP (ci := 5) (q0 := 0) rfl rfl, fun U hU hW => ⟨rfl, PC.of hU hW hPc hK hDc hN⟩⟩ rfl rfl hl.1 rfl (lv_room (Nat.le_of_ble_eq_true rfl)) dX5_bestAskers_31 ⟨Nat.zero_le _, Nat.zero_le _⟩) hS (fun q _ h => hFc q h) hFc (fun r_31 u t H1 locs ht hvm hw hB hz1 hk1 hS => ?_)
        obtain ⟨hP1, hD1⟩ := hB
        try dsimp only at hw
        rw [hw]
        rw [ht] at hP1
        have hP : va_P (dC, dI) vwCl [(p_this, .inr (5, [.ref p_text, .ref p_reader, .ref p_told, .ref p_draft, .ref p_now, .ref p_imageZero, .ref p_imageOne, .ref p_slots, .ref p_placesOf, .int d_keptImages, .long d_traced])), (p_now, .inr (0, [.ref p_now_mounts, .ref p_now_lendings, .ref p_now_log, .ref p_now_undos])), (p_now_mounts, .inr (2, [.int d_now_mounts_most, .ref p_now_mounts_cells, .int d_now_mounts_many])), (p_now_mounts_cells, .inl (cI, 48, .inl d_now_mounts_cells)), (p_slots, .inl (cI, 8, .inl q3)), (p_told, .inr (4, [.ref p_told_dishes, .ref p_told_speakers, .ref p_told_noises, .ref p_told_askers])), (p_told_askers, .inr (2, [.int d_told_askers_most, .ref p_told_askers_cells, .int d_told_askers_many])), (p_told_askers_cells, .inl (cI, 48, .inl d_told_askers_cells))] H1 := join_ro hP hD [0, 5, 6, 7] rfl hk1 hP1
        clear hPc hDc hFc hk1 hz1 hP1 hD1 ht hvm
        generalize H1 = H at hP hS ⊢
        refine lv_aload_n hx hb dX5_bestAskers_34 rfl (lv_at hl 0 rfl) ?_
        refine lv_iload_n hx hb dX5_bestAskers_35 rfl (lv_at hl 1 rfl) ?_
        obtain ⟨q36, hq36, hrun⟩ := bind_out hrun
        have hPc : va_P (dC, dI) vwCl [(p_this, .inr (5, [.ref p_text, .ref p_reader, .ref p_told, .ref p_draft, .ref p_now, .ref p_imageZero, .ref p_imageOne, .ref p_slots, .ref p_placesOf, .int d_keptImages, .long d_traced])), (p_told, .inr (4, [.ref p_told_dishes, .ref p_told_speakers, .ref p_told_noises, .ref p_told_askers])), (p_told_askers, .inr (2, [.int d_told_askers_most, .ref p_told_askers_cells, .int d_told_askers_many])), (p_told_askers_cells, .inl (cI, 48, .inl d_told_askers_cells))] H := hP.sub [0, 5, 6, 7] rfl
        have hDc : va_D A [(p_this, .inr (5, [.ref p_text, .ref p_reader, .ref p_told, .ref p_draft, .ref p_now, .ref p_imageZero, .ref p_imageOne, .ref p_slots, .ref p_placesOf, .int d_keptImages, .long d_traced])), (p_told, .inr (4, [.ref p_told_dishes, .ref p_told_speakers, .ref p_told_noises, .ref p_told_askers])), (p_told_askers, .inr (2, [.int d_told_askers_most, .ref p_told_askers_cells, .int d_told_askers_many])), (p_told_askers_cells, .inl (cI, 48, .inl d_told_askers_cells))] := hD.sub [0, 5, 6, 7] (by decide) rfl
        have hFc := va_free (wc := [(p_this, .inr (5, [.ref p_text, .ref p_reader, .ref p_told, .ref p_draft, .ref p_now, .ref p_imageZero, .ref p_imageOne, .ref p_slots, .ref p_placesOf, .int d_keptImages, .long d_traced])), (p_told, .inr (4, [.ref p_told_dishes, .ref p_told_speakers, .ref p_told_noises, .ref p_told_askers])), (p_told_askers, .inr (2, [.int d_told_askers_most, .ref p_told_askers_cells, .int d_told_askers_many])), (p_told_askers_cells, .inl (cI, 48, .inl d_told_askers_cells))]) hD hS hA [0, 5, 6, 7] rfl
        refine va_calli (va_runV (As := [.int x3_11]) (rest := [.int q31]) ⟨hx, hb, hml, hown, hts⟩ (c_X5_sureOf l dC dI cI cZ H.size p_draft p_imageOne p_imageZero p_now p_placesOf p_reader p_slots p_text p_this p_told p_told_askers p_told_askers_cells p_told_dishes p_told_noises p_told_speakers d_keptImages d_traced d_told_askers_most d_told_askers_many d_told_askers_cells x3_11 q36 hq36) (cwV 1 hts gX5_bestAskers_X5_sureOf rfl rfl rfl (by decide +kernel) ⟨Nat.le_of_ble_eq_true rfl, Nat.le_of_ble_eq_true rfl⟩) ⟨fun a U g mk q => ⟨q.1, PC.mv q.2⟩, va_recv hK hP (ci := 5) (q0 := 0) rfl rfl, fun U hU hW => ⟨rfl, PC.of hU hW hPc hK hDc hN⟩⟩ rfl rfl hl.1 rfl (lv_room (Nat.le_of_ble_eq_true rfl)) dX5_bestAskers_36 ⟨Nat.zero_le _, Nat.zero_le _⟩) hS (fun q _ h => hFc q h) hFc (fun r_36 u t H1 locs ht hvm hw hB hz1 hk1 hS => ?_)
        obtain ⟨hP1, hD1⟩ := hB
        try dsimp only at hw
        rw [hw]
        rw [ht] at hP1
        have hP : va_P (dC, dI) vwCl [(p_this, .inr (5, [.ref p_text, .ref p_reader, .ref p_told, .ref p_draft, .ref p_now, .ref p_imageZero, .ref p_imageOne, .ref p_slots, .ref p_placesOf, .int d_keptImages, .long d_traced])), (p_now, .inr (0, [.ref p_now_mounts, .ref p_now_lendings, .ref p_now_log, .ref p_now_undos])), (p_now_mounts, .inr (2, [.int d_now_mounts_most, .ref p_now_mounts_cells, .int d_now_mounts_many])), (p_now_mounts_cells, .inl (cI, 48, .inl d_now_mounts_cells)), (p_slots, .inl (cI, 8, .inl q3)), (p_told, .inr (4, [.ref p_told_dishes, .ref p_told_speakers, .ref p_told_noises, .ref p_told_askers])), (p_told_askers, .inr (2, [.int d_told_askers_most, .ref p_told_askers_cells, .int d_told_askers_many])), (p_told_askers_cells, .inl (cI, 48, .inl d_told_askers_cells))] H1 := join_ro hP hD [0, 5, 6, 7] rfl hk1 hP1
        clear hPc hDc hFc hk1 hz1 hP1 hD1 ht hvm
        generalize H1 = H at hP hS ⊢
        have J54 : ∀ (x3_54 : Int32) (H : Heap) (locs : List Loc), va_P (dC, dI) vwCl [(p_this, .inr (5, [.ref p_text, .ref p_reader, .ref p_told, .ref p_draft, .ref p_now, .ref p_imageZero, .ref p_imageOne, .ref p_slots, .ref p_placesOf, .int d_keptImages, .long d_traced])), (p_now, .inr (0, [.ref p_now_mounts, .ref p_now_lendings, .ref p_now_log, .ref p_now_undos])), (p_now_mounts, .inr (2, [.int d_now_mounts_most, .ref p_now_mounts_cells, .int d_now_mounts_many])), (p_now_mounts_cells, .inl (cI, 48, .inl d_now_mounts_cells)), (p_slots, .inl (cI, 8, .inl q3)), (p_told, .inr (4, [.ref p_told_dishes, .ref p_told_speakers, .ref p_told_noises, .ref p_told_askers])), (p_told_askers, .inr (2, [.int d_told_askers_most, .ref p_told_askers_cells, .int d_told_askers_many])), (p_told_askers_cells, .inl (cI, 48, .inl d_told_askers_cells))] H → va_D A [(p_this, .inr (5, [.ref p_text, .ref p_reader, .ref p_told, .ref p_draft, .ref p_now, .ref p_imageZero, .ref p_imageOne, .ref p_slots, .ref p_placesOf, .int d_keptImages, .long d_traced])), (p_now, .inr (0, [.ref p_now_mounts, .ref p_now_lendings, .ref p_now_log, .ref p_now_undos])), (p_now_mounts, .inr (2, [.int d_now_mounts_most, .ref p_now_mounts_cells, .int d_now_mounts_many])), (p_now_mounts_cells, .inl (cI, 48, .inl d_now_mounts_cells)), (p_slots, .inl (cI, 8, .inl q3)), (p_told, .inr (4, [.ref p_told_dishes, .ref p_told_speakers, .ref p_told_noises, .ref p_told_askers])), (p_told_askers, .inr (2, [.int d_told_askers_most, .ref p_told_askers_cells, .int d_told_askers_many])), (p_told_askers_cells, .inl (cI, 48, .inl d_told_askers_cells))] → va_S A s.heap H locs → ∀ ls : Array Slot, lv_has ls 5 [(0, .ref p_this), (3, .int x3_54), (4, .int x4_11)] → f_X5_bestAskers_J54 (f_X5_bestAskers_L11 q3 d_told_askers_many d_told_askers_cells n9_11) x4_11 q3 d_told_askers_many d_told_askers_cells x3_54 = some out → W p l e ({ frames := 4, cells := 0, slots := 0, locals := 91 } : Room) s m ([.ref p_this, .int x1, .int x2] : List Value).toArray below meth c H locs 0 0 Q (F0 m 54 ls []) := by
          intro x3_54 H locs hP hD hS ls hl hrun
          rw [f_X5_bestAskers_J54] at hrun
          refine lv_iinc (v := x4_11 + 1) (lv' := [(4, .int (x4_11 + 1)), (0, .ref p_this), (3, .int x3_54)]) hx hb dX5_bestAskers_54 hl (k := 2) rfl rfl (by decide) rfl (fun ls hl => ?_)
          refine lv_goto (tgt := 11) hx hb dX5_bestAskers_57 (by decide) ?_
          exact ih11 x3_54 (x4_11 + 1) H locs hP hD hS ls (lv_sub hl [1, 2, 0] rfl) hrun
        refine lv_icmp_le (tgt := 54) hx hb dX5_bestAskers_39 (by decide) (fun c_39 => ?_) (fun c_39 => ?_)
        · rw [if_pos c_39] at hrun
          exact J54 x3_11 H locs hP hD hS ls hl hrun
        · rw [if_neg c_39] at hrun
          refine lv_aload_n hx hb dX5_bestAskers_42 rfl (lv_at hl 0 rfl) ?_
          refine lv_iload hx hb dX5_bestAskers_43 (lv_at hl 2 rfl) ?_
          obtain ⟨q45, hq45, hrun⟩ := bind_out hrun
          have hPc : va_P (dC, dI) vwCl [(p_this, .inr (5, [.ref p_text, .ref p_reader, .ref p_told, .ref p_draft, .ref p_now, .ref p_imageZero, .ref p_imageOne, .ref p_slots, .ref p_placesOf, .int d_keptImages, .long d_traced])), (p_slots, .inl (cI, 8, .inl q3)), (p_told, .inr (4, [.ref p_told_dishes, .ref p_told_speakers, .ref p_told_noises, .ref p_told_askers])), (p_told_askers, .inr (2, [.int d_told_askers_most, .ref p_told_askers_cells, .int d_told_askers_many])), (p_told_askers_cells, .inl (cI, 48, .inl d_told_askers_cells))] H := hP.sub [0, 4, 5, 6, 7] rfl
          have hDc : va_D A [(p_this, .inr (5, [.ref p_text, .ref p_reader, .ref p_told, .ref p_draft, .ref p_now, .ref p_imageZero, .ref p_imageOne, .ref p_slots, .ref p_placesOf, .int d_keptImages, .long d_traced])), (p_slots, .inl (cI, 8, .inl q3)), (p_told, .inr (4, [.ref p_told_dishes, .ref p_told_speakers, .ref p_told_noises, .ref p_told_askers])), (p_told_askers, .inr (2, [.int d_told_askers_most, .ref p_told_askers_cells, .int d_told_askers_many])), (p_told_askers_cells, .inl (cI, 48, .inl d_told_askers_cells))] := hD.sub [0, 4, 5, 6, 7] (by decide) rfl
          have hFc := va_free (wc := [(p_this, .inr (5, [.ref p_text, .ref p_reader, .ref p_told, .ref p_draft, .ref p_now, .ref p_imageZero, .ref p_imageOne, .ref p_slots, .ref p_placesOf, .int d_keptImages, .long d_traced])), (p_slots, .inl (cI, 8, .inl q3)), (p_told, .inr (4, [.ref p_told_dishes, .ref p_told_speakers, .ref p_told_noises, .ref p_told_askers])), (p_told_askers, .inr (2, [.int d_told_askers_most, .ref p_told_askers_cells, .int d_told_askers_many])), (p_told_askers_cells, .inl (cI, 48, .inl d_told_askers_cells))]) hD hS hA [0, 4, 5, 6, 7] rfl
          refine va_calli (va_runV (As := [.int x4_11]) (rest := []) ⟨hx, hb, hml, hown, hts⟩ (c_X5_haveSlots l dC dI cI cZ H.size p_draft p_imageOne p_imageZero p_now p_placesOf p_reader p_slots p_text p_this p_told p_told_askers p_told_askers_cells p_told_dishes p_told_noises p_told_speakers d_keptImages d_traced q3 d_told_askers_most d_told_askers_many d_told_askers_cells x4_11 q45 hq45) (cwV 1 hts gX5_bestAskers_X5_haveSlots rfl rfl rfl (by decide +kernel) ⟨Nat.le_of_ble_eq_true rfl, Nat.le_of_ble_eq_true rfl⟩) ⟨fun a U g mk q => ⟨q.1, PC.mv q.2⟩, va_recv hK hP (ci := 5) (q0 := 0) rfl rfl, fun U hU hW => ⟨rfl, PC.of hU hW hPc hK hDc hN⟩⟩ rfl rfl hl.1 rfl (lv_room (Nat.le_of_ble_eq_true rfl)) dX5_bestAskers_45 ⟨Nat.zero_le _, Nat.zero_le _⟩) hS (fun q _ h => hFc q h) hFc (fun r_45 u t H1 locs ht hvm hw hB hz1 hk1 hS => ?_)
          obtain ⟨hP1, hD1⟩ := hB
          try dsimp only at hw
          rw [hw]
          rw [ht] at hP1
          have hP : va_P (dC, dI) vwCl [(p_this, .inr (5, [.ref p_text, .ref p_reader, .ref p_told, .ref p_draft, .ref p_now, .ref p_imageZero, .ref p_imageOne, .ref p_slots, .ref p_placesOf, .int d_keptImages, .long d_traced])), (p_now, .inr (0, [.ref p_now_mounts, .ref p_now_lendings, .ref p_now_log, .ref p_now_undos])), (p_now_mounts, .inr (2, [.int d_now_mounts_most, .ref p_now_mounts_cells, .int d_now_mounts_many])), (p_now_mounts_cells, .inl (cI, 48, .inl d_now_mounts_cells)), (p_slots, .inl (cI, 8, .inl q3)), (p_told, .inr (4, [.ref p_told_dishes, .ref p_told_speakers, .ref p_told_noises, .ref p_told_askers])), (p_told_askers, .inr (2, [.int d_told_askers_most, .ref p_told_askers_cells, .int d_told_askers_many])), (p_told_askers_cells, .inl (cI, 48, .inl d_told_askers_cells))] H1 := join_ro hP hD [0, 4, 5, 6, 7] rfl hk1 hP1
          clear hPc hDc hFc hk1 hz1 hP1 hD1 ht hvm
          generalize H1 = H at hP hS ⊢
          refine lv_if_eq (tgt := 54) hx hb dX5_bestAskers_48 (by decide) (fun c_48 => ?_) (fun c_48 => ?_)
          · rw [if_pos c_48] at hrun
            exact J54 x3_11 H locs hP hD hS ls hl hrun
          · rw [if_neg c_48] at hrun
            refine lv_iload hx hb dX5_bestAskers_51 (lv_at hl 2 rfl) ?_
            refine lv_istore_n (lv' := [(3, .int x4_11), (0, .ref p_this), (4, .int x4_11)]) hx hb dX5_bestAskers_53 rfl hl (by decide) rfl (fun ls hl => ?_)
            exact J54 x4_11 H locs hP hD hS ls (lv_sub hl [1, 0, 2] rfl) hrun
  exact L11 FU 0 1 H locs hP hD hS ls (lv_sub hl [2, 1, 0] rfl) hrun
-- SkyListeners.best
def f_X5_best (d_now_mounts_many : Int32) (d_now_mounts_cells : Nat → Int32) (d_slots : Nat → Int32) (d_told_askers_many : Int32) (d_told_askers_cells : Nat → Int32) (x1 : Int32) (x2 : Int32) (x3 : Int32) : Option (Int32 × (Nat → Int32)) := (if (f_X5_areHours x1 x2) = 0 then (some ((-1), d_slots)) else (if (f_X5_isBit x3) = 0 then (some ((-1), d_slots)) else ((f_X5_bestAskers d_now_mounts_many d_now_mounts_cells d_slots d_told_askers_many d_told_askers_cells x1 x2).bind fun q20 => (if x3 = 0 then ((f_X5_sureOf d_told_askers_many d_told_askers_cells q20.1).bind fun q32 => (some (q32, q20.2))) else (some (q20.1, q20.2))))))
set_option maxHeartbeats 4000000 in
set_option maxRecDepth 100000 in
theorem c_X5_best (l : Launch) (dC : Nat → ClassId) (dI : Nat → Nat → Nat) (cI cZ : ClassId) (sz : Nat) (p_draft p_imageOne p_imageZero p_now p_now_lendings p_now_log p_now_mounts p_now_mounts_cells p_now_undos p_placesOf p_reader p_slots p_text p_this p_told p_told_askers p_told_askers_cells p_told_dishes p_told_noises p_told_speakers : Nat) (d_keptImages : Int32) (d_traced : Int64) (d_now_mounts_most : Int32) (d_now_mounts_many : Int32) (d_now_mounts_cells : Nat → Int32) (d_slots : Nat → Int32) (d_told_askers_most : Int32) (d_told_askers_many : Int32) (d_told_askers_cells : Nat → Int32) (x1 : Int32) (x2 : Int32) (x3 : Int32) (out : Int32 × (Nat → Int32)) (hrun : f_X5_best d_now_mounts_many d_now_mounts_cells d_slots d_told_askers_many d_told_askers_cells x1 x2 x3 = some out) : Met l yX5_best wsX5_best ({ frames := 5, cells := 0, slots := 0, locals := 115 } : Room) (va_Pc [.ref p_this, .int x1, .int x2, .int x3] (PC dC dI cI cZ sz ([(p_this, .inr (5, [.ref p_text, .ref p_reader, .ref p_told, .ref p_draft, .ref p_now, .ref p_imageZero, .ref p_imageOne, .ref p_slots, .ref p_placesOf, .int d_keptImages, .long d_traced])), (p_now, .inr (0, [.ref p_now_mounts, .ref p_now_lendings, .ref p_now_log, .ref p_now_undos])), (p_now_mounts, .inr (2, [.int d_now_mounts_most, .ref p_now_mounts_cells, .int d_now_mounts_many])), (p_now_mounts_cells, .inl (cI, 48, .inl d_now_mounts_cells)), (p_slots, .inl (cI, 8, .inl d_slots)), (p_told, .inr (4, [.ref p_told_dishes, .ref p_told_speakers, .ref p_told_noises, .ref p_told_askers])), (p_told_askers, .inr (2, [.int d_told_askers_most, .ref p_told_askers_cells, .int d_told_askers_many])), (p_told_askers_cells, .inl (cI, 48, .inl d_told_askers_cells))] : va_W))) (va_Qi (fun r (_ : Unit) => r = out.1) (fun _ t => va_P (dC, dI) vwCl [(p_this, .inr (5, [.ref p_text, .ref p_reader, .ref p_told, .ref p_draft, .ref p_now, .ref p_imageZero, .ref p_imageOne, .ref p_slots, .ref p_placesOf, .int d_keptImages, .long d_traced])), (p_now, .inr (0, [.ref p_now_mounts, .ref p_now_lendings, .ref p_now_log, .ref p_now_undos])), (p_now_mounts, .inr (2, [.int d_now_mounts_most, .ref p_now_mounts_cells, .int d_now_mounts_many])), (p_now_mounts_cells, .inl (cI, 48, .inl d_now_mounts_cells)), (p_slots, .inl (cI, 8, .inl out.2)), (p_told, .inr (4, [.ref p_told_dishes, .ref p_told_speakers, .ref p_told_noises, .ref p_told_askers])), (p_told_askers, .inr (2, [.int d_told_askers_most, .ref p_told_askers_cells, .int d_told_askers_many])), (p_told_askers_cells, .inl (cI, 48, .inl d_told_askers_cells))] t.heap ∧ va_D (va_A ([(p_this, .inr (5, [.ref p_text, .ref p_reader, .ref p_told, .ref p_draft, .ref p_now, .ref p_imageZero, .ref p_imageOne, .ref p_slots, .ref p_placesOf, .int d_keptImages, .long d_traced])), (p_now, .inr (0, [.ref p_now_mounts, .ref p_now_lendings, .ref p_now_log, .ref p_now_undos])), (p_now_mounts, .inr (2, [.int d_now_mounts_most, .ref p_now_mounts_cells, .int d_now_mounts_many])), (p_now_mounts_cells, .inl (cI, 48, .inl d_now_mounts_cells)), (p_slots, .inl (cI, 8, .inl d_slots)), (p_told, .inr (4, [.ref p_told_dishes, .ref p_told_speakers, .ref p_told_noises, .ref p_told_askers])), (p_told_askers, .inr (2, [.int d_told_askers_most, .ref p_told_askers_cells, .int d_told_askers_many])), (p_told_askers_cells, .inl (cI, 48, .inl d_told_askers_cells))] : va_W) sz) [(p_this, .inr (5, [.ref p_text, .ref p_reader, .ref p_told, .ref p_draft, .ref p_now, .ref p_imageZero, .ref p_imageOne, .ref p_slots, .ref p_placesOf, .int d_keptImages, .long d_traced])), (p_now, .inr (0, [.ref p_now_mounts, .ref p_now_lendings, .ref p_now_log, .ref p_now_undos])), (p_now_mounts, .inr (2, [.int d_now_mounts_most, .ref p_now_mounts_cells, .int d_now_mounts_many])), (p_now_mounts_cells, .inl (cI, 48, .inl d_now_mounts_cells)), (p_slots, .inl (cI, 8, .inl out.2)), (p_told, .inr (4, [.ref p_told_dishes, .ref p_told_speakers, .ref p_told_noises, .ref p_told_askers])), (p_told_askers, .inr (2, [.int d_told_askers_most, .ref p_told_askers_cells, .int d_told_askers_many])), (p_told_askers_cells, .inl (cI, 48, .inl d_told_askers_cells))]) (va_A ([(p_this, .inr (5, [.ref p_text, .ref p_reader, .ref p_told, .ref p_draft, .ref p_now, .ref p_imageZero, .ref p_imageOne, .ref p_slots, .ref p_placesOf, .int d_keptImages, .long d_traced])), (p_now, .inr (0, [.ref p_now_mounts, .ref p_now_lendings, .ref p_now_log, .ref p_now_undos])), (p_now_mounts, .inr (2, [.int d_now_mounts_most, .ref p_now_mounts_cells, .int d_now_mounts_many])), (p_now_mounts_cells, .inl (cI, 48, .inl d_now_mounts_cells)), (p_slots, .inl (cI, 8, .inl d_slots)), (p_told, .inr (4, [.ref p_told_dishes, .ref p_told_speakers, .ref p_told_noises, .ref p_told_askers])), (p_told_askers, .inr (2, [.int d_told_askers_most, .ref p_told_askers_cells, .int d_told_askers_many])), (p_told_askers_cells, .inl (cI, 48, .inl d_told_askers_cells))] : va_W) sz)) 0 0 (va_A ([(p_this, .inr (5, [.ref p_text, .ref p_reader, .ref p_told, .ref p_draft, .ref p_now, .ref p_imageZero, .ref p_imageOne, .ref p_slots, .ref p_placesOf, .int d_keptImages, .long d_traced])), (p_now, .inr (0, [.ref p_now_mounts, .ref p_now_lendings, .ref p_now_log, .ref p_now_undos])), (p_now_mounts, .inr (2, [.int d_now_mounts_most, .ref p_now_mounts_cells, .int d_now_mounts_many])), (p_now_mounts_cells, .inl (cI, 48, .inl d_now_mounts_cells)), (p_slots, .inl (cI, 8, .inl d_slots)), (p_told, .inr (4, [.ref p_told_dishes, .ref p_told_speakers, .ref p_told_noises, .ref p_told_askers])), (p_told_askers, .inr (2, [.int d_told_askers_most, .ref p_told_askers_cells, .int d_told_askers_many])), (p_told_askers_cells, .inl (cI, 48, .inl d_told_askers_cells))] : va_W) sz) := by
  refine Met.ofW (cc := cX5_best) (maxL := 5) (ret := (some .int)) (by decide) rfl ?_
  intro p e s m args below meth c s₁ B hml hv
  obtain ⟨rfl, hsz, hP, hK, hD0, hN⟩ := hv
  have hx := B.exec
  have hb := B.bytes
  have hr := B.returns
  have hts := atoms_spec (ws := wsX5_best) B.pre
  have hown : s.vm.findClass RX5 = some m.cls := findClass_of_methodNamed B.named
  have hlocks := B.notSynchronized
  subst hsz
  have hD := hD0.self (sz := s.heap.size)
  generalize hAe : va_A ([(p_this, .inr (5, [.ref p_text, .ref p_reader, .ref p_told, .ref p_draft, .ref p_now, .ref p_imageZero, .ref p_imageOne, .ref p_slots, .ref p_placesOf, .int d_keptImages, .long d_traced])), (p_now, .inr (0, [.ref p_now_mounts, .ref p_now_lendings, .ref p_now_log, .ref p_now_undos])), (p_now_mounts, .inr (2, [.int d_now_mounts_most, .ref p_now_mounts_cells, .int d_now_mounts_many])), (p_now_mounts_cells, .inl (cI, 48, .inl d_now_mounts_cells)), (p_slots, .inl (cI, 8, .inl d_slots)), (p_told, .inr (4, [.ref p_told_dishes, .ref p_told_speakers, .ref p_told_noises, .ref p_told_askers])), (p_told_askers, .inr (2, [.int d_told_askers_most, .ref p_told_askers_cells, .int d_told_askers_many])), (p_told_askers_cells, .inl (cI, 48, .inl d_told_askers_cells))] : va_W) s.heap.size = A at hD ⊢
  have hA : ∀ q : Nat, s.heap.size ≤ q → A q := fun q h => by rw [← hAe]; exact Or.inr h
  have hS : va_S A s.heap s.heap [] := va_S.rf
  refine W_abs (fun Q hQ => ?_)
  have hl := lv_entry ([.ref p_this, .int x1, .int x2, .int x3]) (n := 5) (Nat.le_of_ble_eq_true rfl)
  rw [lg_entry_eq]
  generalize (lg_sl ([.ref p_this, .int x1, .int x2, .int x3]) ++ List.replicate (5 - (lg_sl ([.ref p_this, .int x1, .int x2, .int x3])).length) Slot.unset).toArray = ls at hl ⊢
  have hl : lv_has ls 5 [(0, .ref p_this), (1, .int x1), (2, .int x2), (3, .int x3)] := hl
  rw [f_X5_best] at hrun
  refine W_start (ws := [(p_this, .inr (5, [.ref p_text, .ref p_reader, .ref p_told, .ref p_draft, .ref p_now, .ref p_imageZero, .ref p_imageOne, .ref p_slots, .ref p_placesOf, .int d_keptImages, .long d_traced])), (p_now, .inr (0, [.ref p_now_mounts, .ref p_now_lendings, .ref p_now_log, .ref p_now_undos])), (p_now_mounts, .inr (2, [.int d_now_mounts_most, .ref p_now_mounts_cells, .int d_now_mounts_many])), (p_now_mounts_cells, .inl (cI, 48, .inl d_now_mounts_cells)), (p_slots, .inl (cI, 8, .inl d_slots)), (p_told, .inr (4, [.ref p_told_dishes, .ref p_told_speakers, .ref p_told_noises, .ref p_told_askers])), (p_told_askers, .inr (2, [.int d_told_askers_most, .ref p_told_askers_cells, .int d_told_askers_many])), (p_told_askers_cells, .inl (cI, 48, .inl d_told_askers_cells))]) hP hS (fun H locs hP hS => ?_)
  refine lv_iload_n hx hb dX5_best_0 rfl (lv_at hl 1 rfl) ?_
  refine lv_iload_n hx hb dX5_best_1 rfl (lv_at hl 2 rfl) ?_
  have hPc : va_P (dC, dI) vwCl [] H := hP.sub [] rfl
  have hDc : va_D A [] := hD.sub [] (by decide) rfl
  have hFc := va_free (wc := []) hD hS hA [] rfl
  refine va_calli (va_runS (As := [.int x1, .int x2]) (rest := []) ⟨hx, hb, hml, hown, hts⟩ (c_X5_areHours l dC dI cI cZ H.size x1 x2 (f_X5_areHours x1 x2) rfl) (va_cwS 2 hts gX5_best_X5_areHours rfl rfl rfl (by decide +kernel) ⟨Nat.le_of_ble_eq_true rfl, Nat.le_of_ble_eq_true rfl⟩) ⟨fun a U g mk q => ⟨q.1, PC.mv q.2⟩, fun U hU hW => ⟨rfl, PC.of hU hW hPc hK hDc hN⟩⟩ rfl rfl hl.1 rfl (lv_room (Nat.le_of_ble_eq_true rfl)) dX5_best_2 ⟨Nat.zero_le _, Nat.zero_le _⟩) hS (fun q _ h => hFc q h) hFc (fun r_2 u t H1 locs ht hvm hw hB hz1 hk1 hS => ?_)
  obtain ⟨hP1, hD1⟩ := hB
  try dsimp only at hw
  rw [hw]
  rw [ht] at hP1
  have hP : va_P (dC, dI) vwCl [(p_this, .inr (5, [.ref p_text, .ref p_reader, .ref p_told, .ref p_draft, .ref p_now, .ref p_imageZero, .ref p_imageOne, .ref p_slots, .ref p_placesOf, .int d_keptImages, .long d_traced])), (p_now, .inr (0, [.ref p_now_mounts, .ref p_now_lendings, .ref p_now_log, .ref p_now_undos])), (p_now_mounts, .inr (2, [.int d_now_mounts_most, .ref p_now_mounts_cells, .int d_now_mounts_many])), (p_now_mounts_cells, .inl (cI, 48, .inl d_now_mounts_cells)), (p_slots, .inl (cI, 8, .inl d_slots)), (p_told, .inr (4, [.ref p_told_dishes, .ref p_told_speakers, .ref p_told_noises, .ref p_told_askers])), (p_told_askers, .inr (2, [.int d_told_askers_most, .ref p_told_askers_cells, .int d_told_askers_many])), (p_told_askers_cells, .inl (cI, 48, .inl d_told_askers_cells))] H1 := join_ro hP hD [] rfl hk1 hP1
  clear hPc hDc hFc hk1 hz1 hP1 hD1 ht hvm
  generalize H1 = H at hP hS ⊢
  refine lv_if_eq (tgt := 15) hx hb dX5_best_5 (by decide) (fun c_5 => ?_) (fun c_5 => ?_)
  · rw [if_pos c_5] at hrun
    refine lv_iconst (v := (-1)) hx hb dX5_best_15 (by decide) ?_
    have hrun := Option.some.inj hrun
    subst hrun
    rw [hQ]
    exact W.iret (v := (-1)) hx hb hr (fun t ht hW => ⟨⟨(-1), (), rfl, rfl, by rw [ht]; exact hP, hD⟩, hS.F ht⟩) hS.2.2 dX5_best_16
  · rw [if_neg c_5] at hrun
    refine lv_iload_n hx hb dX5_best_8 rfl (lv_at hl 3 rfl) ?_
    have hPc : va_P (dC, dI) vwCl [] H := hP.sub [] rfl
    have hDc : va_D A [] := hD.sub [] (by decide) rfl
    have hFc := va_free (wc := []) hD hS hA [] rfl
    refine va_calli (va_runS (As := [.int x3]) (rest := []) ⟨hx, hb, hml, hown, hts⟩ (c_X5_isBit l dC dI cI cZ H.size x3 (f_X5_isBit x3) rfl) (va_cwS 1 hts gX5_best_X5_isBit rfl rfl rfl (by decide +kernel) ⟨Nat.le_of_ble_eq_true rfl, Nat.le_of_ble_eq_true rfl⟩) ⟨fun a U g mk q => ⟨q.1, PC.mv q.2⟩, fun U hU hW => ⟨rfl, PC.of hU hW hPc hK hDc hN⟩⟩ rfl rfl hl.1 rfl (lv_room (Nat.le_of_ble_eq_true rfl)) dX5_best_9 ⟨Nat.zero_le _, Nat.zero_le _⟩) hS (fun q _ h => hFc q h) hFc (fun r_9 u t H1 locs ht hvm hw hB hz1 hk1 hS => ?_)
    obtain ⟨hP1, hD1⟩ := hB
    try dsimp only at hw
    rw [hw]
    rw [ht] at hP1
    have hP : va_P (dC, dI) vwCl [(p_this, .inr (5, [.ref p_text, .ref p_reader, .ref p_told, .ref p_draft, .ref p_now, .ref p_imageZero, .ref p_imageOne, .ref p_slots, .ref p_placesOf, .int d_keptImages, .long d_traced])), (p_now, .inr (0, [.ref p_now_mounts, .ref p_now_lendings, .ref p_now_log, .ref p_now_undos])), (p_now_mounts, .inr (2, [.int d_now_mounts_most, .ref p_now_mounts_cells, .int d_now_mounts_many])), (p_now_mounts_cells, .inl (cI, 48, .inl d_now_mounts_cells)), (p_slots, .inl (cI, 8, .inl d_slots)), (p_told, .inr (4, [.ref p_told_dishes, .ref p_told_speakers, .ref p_told_noises, .ref p_told_askers])), (p_told_askers, .inr (2, [.int d_told_askers_most, .ref p_told_askers_cells, .int d_told_askers_many])), (p_told_askers_cells, .inl (cI, 48, .inl d_told_askers_cells))] H1 := join_ro hP hD [] rfl hk1 hP1
    clear hPc hDc hFc hk1 hz1 hP1 hD1 ht hvm
    generalize H1 = H at hP hS ⊢
    refine lv_if_ne (tgt := 17) hx hb dX5_best_12 (by decide) (fun c_12 => ?_) (fun c_12 => ?_)
    · rw [if_neg c_12] at hrun
      refine lv_aload_n hx hb dX5_best_17 rfl (lv_at hl 0 rfl) ?_
      refine lv_iload_n hx hb dX5_best_18 rfl (lv_at hl 1 rfl) ?_
      refine lv_iload_n hx hb dX5_best_19 rfl (lv_at hl 2 rfl) ?_
      obtain ⟨q20, hq20, hrun⟩ := bind_out hrun
      have hPc : va_P (dC, dI) vwCl [(p_this, .inr (5, [.ref p_text, .ref p_reader, .ref p_told, .ref p_draft, .ref p_now, .ref p_imageZero, .ref p_imageOne, .ref p_slots, .ref p_placesOf, .int d_keptImages, .long d_traced])), (p_now, .inr (0, [.ref p_now_mounts, .ref p_now_lendings, .ref p_now_log, .ref p_now_undos])), (p_now_mounts, .inr (2, [.int d_now_mounts_most, .ref p_now_mounts_cells, .int d_now_mounts_many])), (p_now_mounts_cells, .inl (cI, 48, .inl d_now_mounts_cells)), (p_slots, .inl (cI, 8, .inl d_slots)), (p_told, .inr (4, [.ref p_told_dishes, .ref p_told_speakers, .ref p_told_noises, .ref p_told_askers])), (p_told_askers, .inr (2, [.int d_told_askers_most, .ref p_told_askers_cells, .int d_told_askers_many])), (p_told_askers_cells, .inl (cI, 48, .inl d_told_askers_cells))] H := hP.sub [0, 1, 2, 3, 4, 5, 6, 7] rfl
      have hDc : va_D A [(p_this, .inr (5, [.ref p_text, .ref p_reader, .ref p_told, .ref p_draft, .ref p_now, .ref p_imageZero, .ref p_imageOne, .ref p_slots, .ref p_placesOf, .int d_keptImages, .long d_traced])), (p_now, .inr (0, [.ref p_now_mounts, .ref p_now_lendings, .ref p_now_log, .ref p_now_undos])), (p_now_mounts, .inr (2, [.int d_now_mounts_most, .ref p_now_mounts_cells, .int d_now_mounts_many])), (p_now_mounts_cells, .inl (cI, 48, .inl d_now_mounts_cells)), (p_slots, .inl (cI, 8, .inl d_slots)), (p_told, .inr (4, [.ref p_told_dishes, .ref p_told_speakers, .ref p_told_noises, .ref p_told_askers])), (p_told_askers, .inr (2, [.int d_told_askers_most, .ref p_told_askers_cells, .int d_told_askers_many])), (p_told_askers_cells, .inl (cI, 48, .inl d_told_askers_cells))] := hD.sub [0, 1, 2, 3, 4, 5, 6, 7] (by decide) rfl
      have hFc := va_free (wc := [(p_this, .inr (5, [.ref p_text, .ref p_reader, .ref p_told, .ref p_draft, .ref p_now, .ref p_imageZero, .ref p_imageOne, .ref p_slots, .ref p_placesOf, .int d_keptImages, .long d_traced])), (p_now, .inr (0, [.ref p_now_mounts, .ref p_now_lendings, .ref p_now_log, .ref p_now_undos])), (p_now_mounts, .inr (2, [.int d_now_mounts_most, .ref p_now_mounts_cells, .int d_now_mounts_many])), (p_now_mounts_cells, .inl (cI, 48, .inl d_now_mounts_cells)), (p_slots, .inl (cI, 8, .inl d_slots)), (p_told, .inr (4, [.ref p_told_dishes, .ref p_told_speakers, .ref p_told_noises, .ref p_told_askers])), (p_told_askers, .inr (2, [.int d_told_askers_most, .ref p_told_askers_cells, .int d_told_askers_many])), (p_told_askers_cells, .inl (cI, 48, .inl d_told_askers_cells))]) hD hS hA [0, 1, 2, 3, 4, 5, 6, 7] rfl
      refine va_calli (va_runV (As := [.int x1, .int x2]) (rest := []) ⟨hx, hb, hml, hown, hts⟩ (c_X5_bestAskers l dC dI cI cZ H.size p_draft p_imageOne p_imageZero p_now p_now_lendings p_now_log p_now_mounts p_now_mounts_cells p_now_undos p_placesOf p_reader p_slots p_text p_this p_told p_told_askers p_told_askers_cells p_told_dishes p_told_noises p_told_speakers d_keptImages d_traced d_now_mounts_most d_now_mounts_many d_now_mounts_cells d_slots d_told_askers_most d_told_askers_many d_told_askers_cells x1 x2 q20 hq20) (cwV 2 hts gX5_best_X5_bestAskers rfl rfl rfl (by decide +kernel) ⟨Nat.le_of_ble_eq_true rfl, Nat.le_of_ble_eq_true rfl⟩) ⟨fun a U g mk q => ⟨q.1, PC.mv q.2⟩, va_recv hK hP (ci := 5) (q0 := 0) rfl rfl, fun U hU hW => ⟨rfl, PC.of hU hW hPc hK hDc hN⟩⟩ rfl rfl hl.1 rfl (lv_room (Nat.le_of_ble_eq_true rfl)) dX5_best_20 ⟨Nat.zero_le _, Nat.zero_le _⟩) hS (fun q _ h => hFc q h) hFc (fun r_20 u t H1 locs ht hvm hw hB hz1 hk1 hS => ?_)
      obtain ⟨hP1, hD1⟩ := hB
      try dsimp only at hw
      rw [hw]
      rw [ht] at hP1
      obtain ⟨hP, hD⟩ := va_join (wr := []) (w1 := [(p_this, .inr (5, [.ref p_text, .ref p_reader, .ref p_told, .ref p_draft, .ref p_now, .ref p_imageZero, .ref p_imageOne, .ref p_slots, .ref p_placesOf, .int d_keptImages, .long d_traced])), (p_now, .inr (0, [.ref p_now_mounts, .ref p_now_lendings, .ref p_now_log, .ref p_now_undos])), (p_now_mounts, .inr (2, [.int d_now_mounts_most, .ref p_now_mounts_cells, .int d_now_mounts_many])), (p_now_mounts_cells, .inl (cI, 48, .inl d_now_mounts_cells)), (p_slots, .inl (cI, 8, .inl q20.2)), (p_told, .inr (4, [.ref p_told_dishes, .ref p_told_speakers, .ref p_told_noises, .ref p_told_askers])), (p_told_askers, .inr (2, [.int d_told_askers_most, .ref p_told_askers_cells, .int d_told_askers_many])), (p_told_askers_cells, .inl (cI, 48, .inl d_told_askers_cells))]) hP hD [0, 1, 2, 3, 4, 5, 6, 7] [] rfl rfl (by decide) (by decide) hk1 hFc hP1 hD1
      have hP : va_P (dC, dI) vwCl [(p_this, .inr (5, [.ref p_text, .ref p_reader, .ref p_told, .ref p_draft, .ref p_now, .ref p_imageZero, .ref p_imageOne, .ref p_slots, .ref p_placesOf, .int d_keptImages, .long d_traced])), (p_now, .inr (0, [.ref p_now_mounts, .ref p_now_lendings, .ref p_now_log, .ref p_now_undos])), (p_now_mounts, .inr (2, [.int d_now_mounts_most, .ref p_now_mounts_cells, .int d_now_mounts_many])), (p_now_mounts_cells, .inl (cI, 48, .inl d_now_mounts_cells)), (p_slots, .inl (cI, 8, .inl q20.2)), (p_told, .inr (4, [.ref p_told_dishes, .ref p_told_speakers, .ref p_told_noises, .ref p_told_askers])), (p_told_askers, .inr (2, [.int d_told_askers_most, .ref p_told_askers_cells, .int d_told_askers_many])), (p_told_askers_cells, .inl (cI, 48, .inl d_told_askers_cells))] H1 := hP.sub [0, 1, 2, 3, 4, 5, 6, 7] rfl
      have hD : va_D A [(p_this, .inr (5, [.ref p_text, .ref p_reader, .ref p_told, .ref p_draft, .ref p_now, .ref p_imageZero, .ref p_imageOne, .ref p_slots, .ref p_placesOf, .int d_keptImages, .long d_traced])), (p_now, .inr (0, [.ref p_now_mounts, .ref p_now_lendings, .ref p_now_log, .ref p_now_undos])), (p_now_mounts, .inr (2, [.int d_now_mounts_most, .ref p_now_mounts_cells, .int d_now_mounts_many])), (p_now_mounts_cells, .inl (cI, 48, .inl d_now_mounts_cells)), (p_slots, .inl (cI, 8, .inl q20.2)), (p_told, .inr (4, [.ref p_told_dishes, .ref p_told_speakers, .ref p_told_noises, .ref p_told_askers])), (p_told_askers, .inr (2, [.int d_told_askers_most, .ref p_told_askers_cells, .int d_told_askers_many])), (p_told_askers_cells, .inl (cI, 48, .inl d_told_askers_cells))] := hD.sub [0, 1, 2, 3, 4, 5, 6, 7] (by decide) rfl
      clear hPc hDc hFc hk1 hz1 hP1 hD1 ht hvm
      generalize H1 = H at hP hS ⊢
      refine lv_istore (lv' := [(4, .int q20.1), (0, .ref p_this), (1, .int x1), (2, .int x2), (3, .int x3)]) hx hb dX5_best_23 hl (by decide) rfl (fun ls hl => ?_)
      refine lv_iload_n hx hb dX5_best_25 rfl (lv_at hl 4 rfl) ?_
      refine lv_if_ne (tgt := 38) hx hb dX5_best_26 (by decide) (fun c_26 => ?_) (fun c_26 => ?_)
      · rw [if_neg c_26] at hrun
        refine lv_iload hx hb dX5_best_38 (lv_at hl 0 rfl) ?_
        have hrun := Option.some.inj hrun
        subst hrun
        rw [hQ]
        exact W.iret (v := q20.1) hx hb hr (fun t ht hW => ⟨⟨q20.1, (), rfl, rfl, by rw [ht]; exact hP, hD⟩, hS.F ht⟩) hS.2.2 dX5_best_40
      · rw [if_pos c_26] at hrun
        refine lv_aload_n hx hb dX5_best_29 rfl (lv_at hl 1 rfl) ?_
        refine lv_iload hx hb dX5_best_30 (lv_at hl 0 rfl) ?_
        obtain ⟨q32, hq32, hrun⟩ := bind_out hrun
        have hPc : va_P (dC, dI) vwCl [(p_this, .inr (5, [.ref p_text, .ref p_reader, .ref p_told, .ref p_draft, .ref p_now, .ref p_imageZero, .ref p_imageOne, .ref p_slots, .ref p_placesOf, .int d_keptImages, .long d_traced])), (p_told, .inr (4, [.ref p_told_dishes, .ref p_told_speakers, .ref p_told_noises, .ref p_told_askers])), (p_told_askers, .inr (2, [.int d_told_askers_most, .ref p_told_askers_cells, .int d_told_askers_many])), (p_told_askers_cells, .inl (cI, 48, .inl d_told_askers_cells))] H := hP.sub [0, 5, 6, 7] rfl
        have hDc : va_D A [(p_this, .inr (5, [.ref p_text, .ref p_reader, .ref p_told, .ref p_draft, .ref p_now, .ref p_imageZero, .ref p_imageOne, .ref p_slots, .ref p_placesOf, .int d_keptImages, .long d_traced])), (p_told, .inr (4, [.ref p_told_dishes, .ref p_told_speakers, .ref p_told_noises, .ref p_told_askers])), (p_told_askers, .inr (2, [.int d_told_askers_most, .ref p_told_askers_cells, .int d_told_askers_many])), (p_told_askers_cells, .inl (cI, 48, .inl d_told_askers_cells))] := hD.sub [0, 5, 6, 7] (by decide) rfl
        have hFc := va_free (wc := [(p_this, .inr (5, [.ref p_text, .ref p_reader, .ref p_told, .ref p_draft, .ref p_now, .ref p_imageZero, .ref p_imageOne, .ref p_slots, .ref p_placesOf, .int d_keptImages, .long d_traced])), (p_told, .inr (4, [.ref p_told_dishes, .ref p_told_speakers, .ref p_told_noises, .ref p_told_askers])), (p_told_askers, .inr (2, [.int d_told_askers_most, .ref p_told_askers_cells, .int d_told_askers_many])), (p_told_askers_cells, .inl (cI, 48, .inl d_told_askers_cells))]) hD hS hA [0, 5, 6, 7] rfl
        refine va_calli (va_runV (As := [.int q20.1]) (rest := []) ⟨hx, hb, hml, hown, hts⟩ (c_X5_sureOf l dC dI cI cZ H.size p_draft p_imageOne p_imageZero p_now p_placesOf p_reader p_slots p_text p_this p_told p_told_askers p_told_askers_cells p_told_dishes p_told_noises p_told_speakers d_keptImages d_traced d_told_askers_most d_told_askers_many d_told_askers_cells q20.1 q32 hq32) (cwV 1 hts gX5_best_X5_sureOf rfl rfl rfl (by decide +kernel) ⟨Nat.le_of_ble_eq_true rfl, Nat.le_of_ble_eq_true rfl⟩) ⟨fun a U g mk q => ⟨q.1, PC.mv q.2⟩, va_recv hK hP (ci := 5) (q0 := 0) rfl rfl, fun U hU hW => ⟨rfl, PC.of hU hW hPc hK hDc hN⟩⟩ rfl rfl hl.1 rfl (lv_room (Nat.le_of_ble_eq_true rfl)) dX5_best_32 ⟨Nat.zero_le _, Nat.zero_le _⟩) hS (fun q _ h => hFc q h) hFc (fun r_32 u t H1 locs ht hvm hw hB hz1 hk1 hS => ?_)
        obtain ⟨hP1, hD1⟩ := hB
        try dsimp only at hw
        rw [hw]
        rw [ht] at hP1
        have hP : va_P (dC, dI) vwCl [(p_this, .inr (5, [.ref p_text, .ref p_reader, .ref p_told, .ref p_draft, .ref p_now, .ref p_imageZero, .ref p_imageOne, .ref p_slots, .ref p_placesOf, .int d_keptImages, .long d_traced])), (p_now, .inr (0, [.ref p_now_mounts, .ref p_now_lendings, .ref p_now_log, .ref p_now_undos])), (p_now_mounts, .inr (2, [.int d_now_mounts_most, .ref p_now_mounts_cells, .int d_now_mounts_many])), (p_now_mounts_cells, .inl (cI, 48, .inl d_now_mounts_cells)), (p_slots, .inl (cI, 8, .inl q20.2)), (p_told, .inr (4, [.ref p_told_dishes, .ref p_told_speakers, .ref p_told_noises, .ref p_told_askers])), (p_told_askers, .inr (2, [.int d_told_askers_most, .ref p_told_askers_cells, .int d_told_askers_many])), (p_told_askers_cells, .inl (cI, 48, .inl d_told_askers_cells))] H1 := join_ro hP hD [0, 5, 6, 7] rfl hk1 hP1
        clear hPc hDc hFc hk1 hz1 hP1 hD1 ht hvm
        generalize H1 = H at hP hS ⊢
        refine lv_goto (tgt := 40) hx hb dX5_best_35 (by decide) ?_
        have hrun := Option.some.inj hrun
        subst hrun
        rw [hQ]
        exact W.iret (v := q32) hx hb hr (fun t ht hW => ⟨⟨q32, (), rfl, rfl, by rw [ht]; exact hP, hD⟩, hS.F ht⟩) hS.2.2 dX5_best_40
    · rw [if_pos c_12] at hrun
      refine lv_iconst (v := (-1)) hx hb dX5_best_15 (by decide) ?_
      have hrun := Option.some.inj hrun
      subst hrun
      rw [hQ]
      exact W.iret (v := (-1)) hx hb hr (fun t ht hW => ⟨⟨(-1), (), rfl, rfl, by rw [ht]; exact hP, hD⟩, hS.F ht⟩) hS.2.2 dX5_best_16
-- SkyListeners.placesSeenByAny
def f_X5_placesSeenByAny_L5 (x1 : Int32) (x2 : Int32) (d_now_mounts_many : Int32) (d_now_mounts_cells : Nat → Int32) : Nat → Int32 → Int32 → Option (Int32)
  | 0, _, _ => none
  | n9 + 1, x3, x4 => (if d_now_mounts_many ≤ x4 then (some x3) else ((f_X0_placesSeen d_now_mounts_many d_now_mounts_cells x4 x1 x2).bind fun q29 => (f_X5_placesSeenByAny_L5  x1 x2 d_now_mounts_many d_now_mounts_cells n9 (x3 ||| q29) (x4 + 1))))
def f_X5_placesSeenByAny (d_now_mounts_many : Int32) (d_now_mounts_cells : Nat → Int32) (x1 : Int32) (x2 : Int32) : Option (Int32) := (f_X5_placesSeenByAny_L5 x1 x2 d_now_mounts_many d_now_mounts_cells FU 0 0)
set_option maxHeartbeats 4000000 in
set_option maxRecDepth 100000 in
theorem c_X5_placesSeenByAny (l : Launch) (dC : Nat → ClassId) (dI : Nat → Nat → Nat) (cI cZ : ClassId) (sz : Nat) (p_draft p_imageOne p_imageZero p_now p_now_lendings p_now_log p_now_mounts p_now_mounts_cells p_now_undos p_placesOf p_reader p_slots p_text p_this p_told : Nat) (d_keptImages : Int32) (d_traced : Int64) (d_now_mounts_most : Int32) (d_now_mounts_many : Int32) (d_now_mounts_cells : Nat → Int32) (x1 : Int32) (x2 : Int32) (out : Int32) (hrun : f_X5_placesSeenByAny d_now_mounts_many d_now_mounts_cells x1 x2 = some out) : Met l yX5_placesSeenByAny wsX5_placesSeenByAny ({ frames := 4, cells := 0, slots := 0, locals := 91 } : Room) (va_Pc [.ref p_this, .int x1, .int x2] (PC dC dI cI cZ sz ([(p_this, .inr (5, [.ref p_text, .ref p_reader, .ref p_told, .ref p_draft, .ref p_now, .ref p_imageZero, .ref p_imageOne, .ref p_slots, .ref p_placesOf, .int d_keptImages, .long d_traced])), (p_now, .inr (0, [.ref p_now_mounts, .ref p_now_lendings, .ref p_now_log, .ref p_now_undos])), (p_now_mounts, .inr (2, [.int d_now_mounts_most, .ref p_now_mounts_cells, .int d_now_mounts_many])), (p_now_mounts_cells, .inl (cI, 48, .inl d_now_mounts_cells))] : va_W))) (va_Qi (fun r (_ : Unit) => r = out) (fun _ t => va_P (dC, dI) vwCl [(p_this, .inr (5, [.ref p_text, .ref p_reader, .ref p_told, .ref p_draft, .ref p_now, .ref p_imageZero, .ref p_imageOne, .ref p_slots, .ref p_placesOf, .int d_keptImages, .long d_traced])), (p_now, .inr (0, [.ref p_now_mounts, .ref p_now_lendings, .ref p_now_log, .ref p_now_undos])), (p_now_mounts, .inr (2, [.int d_now_mounts_most, .ref p_now_mounts_cells, .int d_now_mounts_many])), (p_now_mounts_cells, .inl (cI, 48, .inl d_now_mounts_cells))] t.heap ∧ va_D (va_A ([(p_this, .inr (5, [.ref p_text, .ref p_reader, .ref p_told, .ref p_draft, .ref p_now, .ref p_imageZero, .ref p_imageOne, .ref p_slots, .ref p_placesOf, .int d_keptImages, .long d_traced])), (p_now, .inr (0, [.ref p_now_mounts, .ref p_now_lendings, .ref p_now_log, .ref p_now_undos])), (p_now_mounts, .inr (2, [.int d_now_mounts_most, .ref p_now_mounts_cells, .int d_now_mounts_many])), (p_now_mounts_cells, .inl (cI, 48, .inl d_now_mounts_cells))] : va_W) sz) [(p_this, .inr (5, [.ref p_text, .ref p_reader, .ref p_told, .ref p_draft, .ref p_now, .ref p_imageZero, .ref p_imageOne, .ref p_slots, .ref p_placesOf, .int d_keptImages, .long d_traced])), (p_now, .inr (0, [.ref p_now_mounts, .ref p_now_lendings, .ref p_now_log, .ref p_now_undos])), (p_now_mounts, .inr (2, [.int d_now_mounts_most, .ref p_now_mounts_cells, .int d_now_mounts_many])), (p_now_mounts_cells, .inl (cI, 48, .inl d_now_mounts_cells))]) (va_A ([(p_this, .inr (5, [.ref p_text, .ref p_reader, .ref p_told, .ref p_draft, .ref p_now, .ref p_imageZero, .ref p_imageOne, .ref p_slots, .ref p_placesOf, .int d_keptImages, .long d_traced])), (p_now, .inr (0, [.ref p_now_mounts, .ref p_now_lendings, .ref p_now_log, .ref p_now_undos])), (p_now_mounts, .inr (2, [.int d_now_mounts_most, .ref p_now_mounts_cells, .int d_now_mounts_many])), (p_now_mounts_cells, .inl (cI, 48, .inl d_now_mounts_cells))] : va_W) sz)) 0 0 (va_A ([(p_this, .inr (5, [.ref p_text, .ref p_reader, .ref p_told, .ref p_draft, .ref p_now, .ref p_imageZero, .ref p_imageOne, .ref p_slots, .ref p_placesOf, .int d_keptImages, .long d_traced])), (p_now, .inr (0, [.ref p_now_mounts, .ref p_now_lendings, .ref p_now_log, .ref p_now_undos])), (p_now_mounts, .inr (2, [.int d_now_mounts_most, .ref p_now_mounts_cells, .int d_now_mounts_many])), (p_now_mounts_cells, .inl (cI, 48, .inl d_now_mounts_cells))] : va_W) sz) := by
  refine Met.ofW (cc := cX5_placesSeenByAny) (maxL := 5) (ret := (some .int)) (by decide) rfl ?_
  intro p e s m args below meth c s₁ B hml hv
  obtain ⟨rfl, hsz, hP, hK, hD0, hN⟩ := hv
  have hx := B.exec
  have hb := B.bytes
  have hr := B.returns
  have hts := atoms_spec (ws := wsX5_placesSeenByAny) B.pre
  have hown : s.vm.findClass RX5 = some m.cls := findClass_of_methodNamed B.named
  have hlocks := B.notSynchronized
  subst hsz
  have hD := hD0.self (sz := s.heap.size)
  generalize hAe : va_A ([(p_this, .inr (5, [.ref p_text, .ref p_reader, .ref p_told, .ref p_draft, .ref p_now, .ref p_imageZero, .ref p_imageOne, .ref p_slots, .ref p_placesOf, .int d_keptImages, .long d_traced])), (p_now, .inr (0, [.ref p_now_mounts, .ref p_now_lendings, .ref p_now_log, .ref p_now_undos])), (p_now_mounts, .inr (2, [.int d_now_mounts_most, .ref p_now_mounts_cells, .int d_now_mounts_many])), (p_now_mounts_cells, .inl (cI, 48, .inl d_now_mounts_cells))] : va_W) s.heap.size = A at hD ⊢
  have hA : ∀ q : Nat, s.heap.size ≤ q → A q := fun q h => by rw [← hAe]; exact Or.inr h
  have hS : va_S A s.heap s.heap [] := va_S.rf
  refine W_abs (fun Q hQ => ?_)
  have hl := lv_entry ([.ref p_this, .int x1, .int x2]) (n := 5) (Nat.le_of_ble_eq_true rfl)
  rw [lg_entry_eq]
  generalize (lg_sl ([.ref p_this, .int x1, .int x2]) ++ List.replicate (5 - (lg_sl ([.ref p_this, .int x1, .int x2])).length) Slot.unset).toArray = ls at hl ⊢
  have hl : lv_has ls 5 [(0, .ref p_this), (1, .int x1), (2, .int x2)] := hl
  rw [f_X5_placesSeenByAny] at hrun
  refine W_start (ws := [(p_this, .inr (5, [.ref p_text, .ref p_reader, .ref p_told, .ref p_draft, .ref p_now, .ref p_imageZero, .ref p_imageOne, .ref p_slots, .ref p_placesOf, .int d_keptImages, .long d_traced])), (p_now, .inr (0, [.ref p_now_mounts, .ref p_now_lendings, .ref p_now_log, .ref p_now_undos])), (p_now_mounts, .inr (2, [.int d_now_mounts_most, .ref p_now_mounts_cells, .int d_now_mounts_many])), (p_now_mounts_cells, .inl (cI, 48, .inl d_now_mounts_cells))]) hP hS (fun H locs hP hS => ?_)
  have iwX0 : ∀ w ∈ wsX00, w ∈ wsX5_placesSeenByAny := by decide +kernel
  have iwX2 : ∀ w ∈ wsX20, w ∈ wsX5_placesSeenByAny := by decide +kernel
  have iwX5 : ∀ w ∈ wsX50, w ∈ wsX5_placesSeenByAny := by decide +kernel
  refine lv_iconst (v := 0) hx hb dX5_placesSeenByAny_0 (by decide) ?_
  refine lv_istore_n (lv' := [(3, .int 0), (0, .ref p_this), (1, .int x1), (2, .int x2)]) hx hb dX5_placesSeenByAny_1 rfl hl (by decide) rfl (fun ls hl => ?_)
  refine lv_iconst (v := 0) hx hb dX5_placesSeenByAny_2 (by decide) ?_
  refine lv_istore (lv' := [(4, .int 0), (3, .int 0), (0, .ref p_this), (1, .int x1), (2, .int x2)]) hx hb dX5_placesSeenByAny_3 hl (by decide) rfl (fun ls hl => ?_)
  have L5 : ∀ (n9_5 : Nat) (x3_5 : Int32) (x4_5 : Int32) (H : Heap) (locs : List Loc), va_P (dC, dI) vwCl [(p_this, .inr (5, [.ref p_text, .ref p_reader, .ref p_told, .ref p_draft, .ref p_now, .ref p_imageZero, .ref p_imageOne, .ref p_slots, .ref p_placesOf, .int d_keptImages, .long d_traced])), (p_now, .inr (0, [.ref p_now_mounts, .ref p_now_lendings, .ref p_now_log, .ref p_now_undos])), (p_now_mounts, .inr (2, [.int d_now_mounts_most, .ref p_now_mounts_cells, .int d_now_mounts_many])), (p_now_mounts_cells, .inl (cI, 48, .inl d_now_mounts_cells))] H → va_D A [(p_this, .inr (5, [.ref p_text, .ref p_reader, .ref p_told, .ref p_draft, .ref p_now, .ref p_imageZero, .ref p_imageOne, .ref p_slots, .ref p_placesOf, .int d_keptImages, .long d_traced])), (p_now, .inr (0, [.ref p_now_mounts, .ref p_now_lendings, .ref p_now_log, .ref p_now_undos])), (p_now_mounts, .inr (2, [.int d_now_mounts_most, .ref p_now_mounts_cells, .int d_now_mounts_many])), (p_now_mounts_cells, .inl (cI, 48, .inl d_now_mounts_cells))] → va_S A s.heap H locs → ∀ ls : Array Slot, lv_has ls 5 [(0, .ref p_this), (1, .int x1), (2, .int x2), (3, .int x3_5), (4, .int x4_5)] → f_X5_placesSeenByAny_L5 x1 x2 d_now_mounts_many d_now_mounts_cells n9_5 x3_5 x4_5 = some out → W p l e ({ frames := 4, cells := 0, slots := 0, locals := 91 } : Room) s m ([.ref p_this, .int x1, .int x2] : List Value).toArray below meth c H locs 0 0 Q (F0 m 5 ls []) := by
    intro n9_5
    induction n9_5 with
    | zero =>
      intro x3_5 x4_5 H locs hP hD hS ls hl hrun
      rw [f_X5_placesSeenByAny_L5] at hrun
      cases hrun
    | succ n9_5 ih5 =>
      intro x3_5 x4_5 H locs hP hD hS ls hl hrun
      rw [f_X5_placesSeenByAny_L5] at hrun
      refine lv_iload hx hb dX5_placesSeenByAny_5 (lv_at hl 4 rfl) ?_
      refine lv_aload_n hx hb dX5_placesSeenByAny_7 rfl (lv_at hl 0 rfl) ?_
      refine va_get (D := (dC, dI)) (ci := 5) (v := .ref p_now) (C := RX5) (T := TX5) (N := 11) hx hb hts iwX5 hown hK hP 0 rfl rfl 4 (by decide) (hts (.fieldLink RX5 36 "SkyListeners" "now" "LSkyListeners$Now;") (by decide +kernel)) (fun _ h9 => h9) rfl dX5_placesSeenByAny_8 ?_
      refine va_get (D := (dC, dI)) (ci := 0) (v := .ref p_now_mounts) (C := RX0) (T := TX0) (N := 4) hx hb hts iwX0 hown hK hP 1 rfl rfl 0 (by decide) (hts (.fieldLink RX5 115 "SkyListeners$Now" "mounts" "LSkyListeners$Rows;") (by decide +kernel)) (fun _ h9 => h9) rfl dX5_placesSeenByAny_11 ?_
      refine va_get (D := (dC, dI)) (ci := 2) (v := .int d_now_mounts_many) (C := RX2) (T := TX2) (N := 3) hx hb hts iwX2 hown hK hP 2 rfl rfl 2 (by decide) (hts (.fieldLink RX5 136 "SkyListeners$Rows" "many" "I") (by decide +kernel)) (fun _ h9 => h9) rfl dX5_placesSeenByAny_14 ?_
      refine lv_icmp_ge (tgt := 40) hx hb dX5_placesSeenByAny_17 (by decide) (fun c_17 => ?_) (fun c_17 => ?_)
      · rw [if_pos c_17] at hrun
        refine lv_iload_n hx hb dX5_placesSeenByAny_40 rfl (lv_at hl 3 rfl) ?_
        have hrun := Option.some.inj hrun
        subst hrun
        rw [hQ]
        exact W.iret (v := x3_5) hx hb hr (fun t ht hW => ⟨⟨x3_5, (), rfl, rfl, by rw [ht]; exact hP, hD⟩, hS.F ht⟩) hS.2.2 dX5_placesSeenByAny_41
      · rw [if_neg c_17] at hrun
        refine lv_iload_n hx hb dX5_placesSeenByAny_20 rfl (lv_at hl 3 rfl) ?_
        refine lv_aload_n hx hb dX5_placesSeenByAny_21 rfl (lv_at hl 0 rfl) ?_
        refine va_get (D := (dC, dI)) (ci := 5) (v := .ref p_now) (C := RX5) (T := TX5) (N := 11) hx hb hts iwX5 hown hK hP 0 rfl rfl 4 (by decide) (hts (.fieldLink RX5 36 "SkyListeners" "now" "LSkyListeners$Now;") (by decide +kernel)) (fun _ h9 => h9) rfl dX5_placesSeenByAny_22 ?_
        refine lv_iload hx hb dX5_placesSeenByAny_25 (lv_at hl 4 rfl) ?_
        refine lv_iload_n hx hb dX5_placesSeenByAny_27 rfl (lv_at hl 1 rfl) ?_
        refine lv_iload_n hx hb dX5_placesSeenByAny_28 rfl (lv_at hl 2 rfl) ?_
        obtain ⟨q29, hq29, hrun⟩ := bind_out hrun
        have hPc : va_P (dC, dI) vwCl [(p_now, .inr (0, [.ref p_now_mounts, .ref p_now_lendings, .ref p_now_log, .ref p_now_undos])), (p_now_mounts, .inr (2, [.int d_now_mounts_most, .ref p_now_mounts_cells, .int d_now_mounts_many])), (p_now_mounts_cells, .inl (cI, 48, .inl d_now_mounts_cells))] H := hP.sub [1, 2, 3] rfl
        have hDc : va_D A [(p_now, .inr (0, [.ref p_now_mounts, .ref p_now_lendings, .ref p_now_log, .ref p_now_undos])), (p_now_mounts, .inr (2, [.int d_now_mounts_most, .ref p_now_mounts_cells, .int d_now_mounts_many])), (p_now_mounts_cells, .inl (cI, 48, .inl d_now_mounts_cells))] := hD.sub [1, 2, 3] (by decide) rfl
        have hFc := va_free (wc := [(p_now, .inr (0, [.ref p_now_mounts, .ref p_now_lendings, .ref p_now_log, .ref p_now_undos])), (p_now_mounts, .inr (2, [.int d_now_mounts_most, .ref p_now_mounts_cells, .int d_now_mounts_many])), (p_now_mounts_cells, .inl (cI, 48, .inl d_now_mounts_cells))]) hD hS hA [1, 2, 3] rfl
        refine va_calli (va_runV (As := [.int x4_5, .int x1, .int x2]) (rest := [.int x3_5]) ⟨hx, hb, hml, hown, hts⟩ (c_X0_placesSeen l dC dI cI cZ H.size p_now_lendings p_now_log p_now_mounts p_now_mounts_cells p_now p_now_undos d_now_mounts_most d_now_mounts_many d_now_mounts_cells x4_5 x1 x2 q29 hq29) (cwV 3 hts gX5_placesSeenByAny_X0_placesSeen rfl rfl rfl (by decide +kernel) ⟨Nat.le_of_ble_eq_true rfl, Nat.le_of_ble_eq_true rfl⟩) ⟨fun a U g mk q => ⟨q.1, PC.mv q.2⟩, va_recv hK hP (ci := 0) (q0 := 1) rfl rfl, fun U hU hW => ⟨rfl, PC.of hU hW hPc hK hDc hN⟩⟩ rfl rfl hl.1 rfl (lv_room (Nat.le_of_ble_eq_true rfl)) dX5_placesSeenByAny_29 ⟨Nat.zero_le _, Nat.zero_le _⟩) hS (fun q _ h => hFc q h) hFc (fun r_29 u t H1 locs ht hvm hw hB hz1 hk1 hS => ?_)
        obtain ⟨hP1, hD1⟩ := hB
        try dsimp only at hw
        rw [hw]
        rw [ht] at hP1
        have hP : va_P (dC, dI) vwCl [(p_this, .inr (5, [.ref p_text, .ref p_reader, .ref p_told, .ref p_draft, .ref p_now, .ref p_imageZero, .ref p_imageOne, .ref p_slots, .ref p_placesOf, .int d_keptImages, .long d_traced])), (p_now, .inr (0, [.ref p_now_mounts, .ref p_now_lendings, .ref p_now_log, .ref p_now_undos])), (p_now_mounts, .inr (2, [.int d_now_mounts_most, .ref p_now_mounts_cells, .int d_now_mounts_many])), (p_now_mounts_cells, .inl (cI, 48, .inl d_now_mounts_cells))] H1 := join_ro hP hD [1, 2, 3] rfl hk1 hP1
        clear hPc hDc hFc hk1 hz1 hP1 hD1 ht hvm
        generalize H1 = H at hP hS ⊢
        refine lv_ior hx hb dX5_placesSeenByAny_32 ?_
        refine lv_istore_n (lv' := [(3, .int (x3_5 ||| q29)), (0, .ref p_this), (1, .int x1), (2, .int x2), (4, .int x4_5)]) hx hb dX5_placesSeenByAny_33 rfl hl (by decide) rfl (fun ls hl => ?_)
        refine lv_iinc (v := x4_5 + 1) (lv' := [(4, .int (x4_5 + 1)), (3, .int (x3_5 ||| q29)), (0, .ref p_this), (1, .int x1), (2, .int x2)]) hx hb dX5_placesSeenByAny_34 hl (k := 4) rfl rfl (by decide) rfl (fun ls hl => ?_)
        refine lv_goto (tgt := 5) hx hb dX5_placesSeenByAny_37 (by decide) ?_
        exact ih5 (x3_5 ||| q29) (x4_5 + 1) H locs hP hD hS ls (lv_sub hl [2, 3, 4, 1, 0] rfl) hrun
  exact L5 FU 0 0 H locs hP hD hS ls (lv_sub hl [2, 3, 4, 1, 0] rfl) hrun
-- SkyListeners.commonDivisor
def f_X5_commonDivisor_L7 : Nat → Int32 → Int32 → Int32 → Option (Int32)
  | 0, _, _, _ => none
  | n9 + 1, x2, x3, x4 => (if 100 ≤ x4 then (some x2) else (if x3 = 0 then (some x2) else (if x3 = 0 then none else (f_X5_commonDivisor_L7   n9 x3 (x2 - x2 / x3 * x3) (x4 + 1)))))
def f_X5_commonDivisor (x0 : Int32) (x1 : Int32) : Option (Int32) := (f_X5_commonDivisor_L7 FU x0 x1 0)
set_option maxHeartbeats 4000000 in
set_option maxRecDepth 100000 in
theorem c_X5_commonDivisor (l : Launch) (dC : Nat → ClassId) (dI : Nat → Nat → Nat) (cI cZ : ClassId) (sz : Nat) (x0 : Int32) (x1 : Int32) (out : Int32) (hrun : f_X5_commonDivisor x0 x1 = some out) : Met l yX5_commonDivisor wsX5_commonDivisor ({ frames := 0, cells := 0, slots := 0, locals := 0 } : Room) (va_Pc [.int x0, .int x1] (PC dC dI cI cZ sz ([] : va_W))) (va_Qi (fun r (_ : Unit) => r = out) (fun _ t => va_P (dC, dI) vwCl [] t.heap ∧ va_D (va_A ([] : va_W) sz) []) (va_A ([] : va_W) sz)) 0 0 (va_A ([] : va_W) sz) := by
  refine Met.ofW (cc := cX5_commonDivisor) (maxL := 6) (ret := (some .int)) (by decide) rfl ?_
  intro p e s m args below meth c s₁ B hml hv
  obtain ⟨rfl, hsz, hP, hK, hD0, hN⟩ := hv
  have hx := B.exec
  have hb := B.bytes
  have hr := B.returns
  have hts := atoms_spec (ws := wsX5_commonDivisor) B.pre
  have hown : s.vm.findClass RX5 = some m.cls := findClass_of_methodNamed B.named
  have hlocks := B.notSynchronized
  subst hsz
  have hD := hD0.self (sz := s.heap.size)
  generalize hAe : va_A ([] : va_W) s.heap.size = A at hD ⊢
  have hA : ∀ q : Nat, s.heap.size ≤ q → A q := fun q h => by rw [← hAe]; exact Or.inr h
  have hS : va_S A s.heap s.heap [] := va_S.rf
  refine W_abs (fun Q hQ => ?_)
  have hl := lv_entry ([.int x0, .int x1]) (n := 6) (Nat.le_of_ble_eq_true rfl)
  rw [lg_entry_eq]
  generalize (lg_sl ([.int x0, .int x1]) ++ List.replicate (6 - (lg_sl ([.int x0, .int x1])).length) Slot.unset).toArray = ls at hl ⊢
  have hl : lv_has ls 6 [(0, .int x0), (1, .int x1)] := hl
  rw [f_X5_commonDivisor] at hrun
  refine W_start (ws := []) hP hS (fun H locs hP hS => ?_)
  refine lv_iload_n hx hb dX5_commonDivisor_0 rfl (lv_at hl 0 rfl) ?_
  refine lv_istore_n (lv' := [(2, .int x0), (0, .int x0), (1, .int x1)]) hx hb dX5_commonDivisor_1 rfl hl (by decide) rfl (fun ls hl => ?_)
  refine lv_iload_n hx hb dX5_commonDivisor_2 rfl (lv_at hl 2 rfl) ?_
  refine lv_istore_n (lv' := [(3, .int x1), (2, .int x0), (0, .int x0), (1, .int x1)]) hx hb dX5_commonDivisor_3 rfl hl (by decide) rfl (fun ls hl => ?_)
  refine lv_iconst (v := 0) hx hb dX5_commonDivisor_4 (by decide) ?_
  refine lv_istore (lv' := [(4, .int 0), (3, .int x1), (2, .int x0), (0, .int x0), (1, .int x1)]) hx hb dX5_commonDivisor_5 hl (by decide) rfl (fun ls hl => ?_)
  have L7 : ∀ (n9_7 : Nat) (x2_7 : Int32) (x3_7 : Int32) (x4_7 : Int32) (H : Heap) (locs : List Loc), va_P (dC, dI) vwCl [] H → va_D A [] → va_S A s.heap H locs → ∀ ls : Array Slot, lv_has ls 6 [(2, .int x2_7), (3, .int x3_7), (4, .int x4_7)] → f_X5_commonDivisor_L7 n9_7 x2_7 x3_7 x4_7 = some out → W p l e ({ frames := 0, cells := 0, slots := 0, locals := 0 } : Room) s m ([.int x0, .int x1] : List Value).toArray below meth c H locs 0 0 Q (F0 m 7 ls []) := by
    intro n9_7
    induction n9_7 with
    | zero =>
      intro x2_7 x3_7 x4_7 H locs hP hD hS ls hl hrun
      rw [f_X5_commonDivisor_L7] at hrun
      cases hrun
    | succ n9_7 ih7 =>
      intro x2_7 x3_7 x4_7 H locs hP hD hS ls hl hrun
      rw [f_X5_commonDivisor_L7] at hrun
      refine lv_iload hx hb dX5_commonDivisor_7 (lv_at hl 2 rfl) ?_
      refine lv_bipush (v := 100) hx hb dX5_commonDivisor_9 (by decide) ?_
      refine lv_icmp_ge (tgt := 34) hx hb dX5_commonDivisor_11 (by decide) (fun c_11 => ?_) (fun c_11 => ?_)
      · rw [if_pos c_11] at hrun
        refine lv_iload_n hx hb dX5_commonDivisor_34 rfl (lv_at hl 0 rfl) ?_
        have hrun := Option.some.inj hrun
        subst hrun
        rw [hQ]
        exact W.iret (v := x2_7) hx hb hr (fun t ht hW => ⟨⟨x2_7, (), rfl, rfl, by rw [ht]; exact hP, hD⟩, hS.F ht⟩) hS.2.2 dX5_commonDivisor_35
      · rw [if_neg c_11] at hrun
        refine lv_iload_n hx hb dX5_commonDivisor_14 rfl (lv_at hl 1 rfl) ?_
        refine lv_if_eq (tgt := 34) hx hb dX5_commonDivisor_15 (by decide) (fun c_15 => ?_) (fun c_15 => ?_)
        · rw [if_pos c_15] at hrun
          refine lv_iload_n hx hb dX5_commonDivisor_34 rfl (lv_at hl 0 rfl) ?_
          have hrun := Option.some.inj hrun
          subst hrun
          rw [hQ]
          exact W.iret (v := x2_7) hx hb hr (fun t ht hW => ⟨⟨x2_7, (), rfl, rfl, by rw [ht]; exact hP, hD⟩, hS.F ht⟩) hS.2.2 dX5_commonDivisor_35
        · rw [if_neg c_15] at hrun
          refine lv_iload_n hx hb dX5_commonDivisor_18 rfl (lv_at hl 0 rfl) ?_
          refine lv_iload_n hx hb dX5_commonDivisor_19 rfl (lv_at hl 1 rfl) ?_
          rcases Classical.em (x3_7 = 0) with g_20 | g_20
          · rw [if_pos g_20] at hrun; cases hrun
          rw [if_neg g_20] at hrun
          refine lv_irem hx hb dX5_commonDivisor_20 g_20 ?_
          refine lv_istore (lv' := [(5, .int (x2_7 - x2_7 / x3_7 * x3_7)), (2, .int x2_7), (3, .int x3_7), (4, .int x4_7)]) hx hb dX5_commonDivisor_21 hl (by decide) rfl (fun ls hl => ?_)
          refine lv_iload_n hx hb dX5_commonDivisor_23 rfl (lv_at hl 2 rfl) ?_
          refine lv_istore_n (lv' := [(2, .int x3_7), (5, .int (x2_7 - x2_7 / x3_7 * x3_7)), (3, .int x3_7), (4, .int x4_7)]) hx hb dX5_commonDivisor_24 rfl hl (by decide) rfl (fun ls hl => ?_)
          refine lv_iload hx hb dX5_commonDivisor_25 (lv_at hl 1 rfl) ?_
          refine lv_istore_n (lv' := [(3, .int (x2_7 - x2_7 / x3_7 * x3_7)), (2, .int x3_7), (5, .int (x2_7 - x2_7 / x3_7 * x3_7)), (4, .int x4_7)]) hx hb dX5_commonDivisor_27 rfl hl (by decide) rfl (fun ls hl => ?_)
          refine lv_iinc (v := x4_7 + 1) (lv' := [(4, .int (x4_7 + 1)), (3, .int (x2_7 - x2_7 / x3_7 * x3_7)), (2, .int x3_7), (5, .int (x2_7 - x2_7 / x3_7 * x3_7))]) hx hb dX5_commonDivisor_28 hl (k := 3) rfl rfl (by decide) rfl (fun ls hl => ?_)
          refine lv_goto (tgt := 7) hx hb dX5_commonDivisor_31 (by decide) ?_
          exact ih7 x3_7 (x2_7 - x2_7 / x3_7 * x3_7) (x4_7 + 1) H locs hP hD hS ls (lv_sub hl [2, 1, 0] rfl) hrun
  exact L7 FU x0 x1 0 H locs hP hD hS ls (lv_sub hl [2, 1, 0] rfl) hrun
-- SkyListeners.inLeastTerms
def f_X5_inLeastTerms_J15 (x3 : Int32) (t0 : Int32) : Option (Int32) := (if x3 ≤ 0 then (some t0) else (some (t0 / x3)))
def f_X5_inLeastTerms (x0 : Int32) (x1 : Int32) (x2 : Int32) : Option (Int32) := ((f_X5_commonDivisor x0 x1).bind fun q2 => (if x2 = 0 then (f_X5_inLeastTerms_J15 q2 x0) else (f_X5_inLeastTerms_J15 q2 x1)))
set_option maxHeartbeats 4000000 in
set_option maxRecDepth 100000 in
theorem c_X5_inLeastTerms (l : Launch) (dC : Nat → ClassId) (dI : Nat → Nat → Nat) (cI cZ : ClassId) (sz : Nat) (x0 : Int32) (x1 : Int32) (x2 : Int32) (out : Int32) (hrun : f_X5_inLeastTerms x0 x1 x2 = some out) : Met l yX5_inLeastTerms wsX5_inLeastTerms ({ frames := 1, cells := 0, slots := 0, locals := 25 } : Room) (va_Pc [.int x0, .int x1, .int x2] (PC dC dI cI cZ sz ([] : va_W))) (va_Qi (fun r (_ : Unit) => r = out) (fun _ t => va_P (dC, dI) vwCl [] t.heap ∧ va_D (va_A ([] : va_W) sz) []) (va_A ([] : va_W) sz)) 0 0 (va_A ([] : va_W) sz) := by
  refine Met.ofW (cc := cX5_inLeastTerms) (maxL := 5) (ret := (some .int)) (by decide) rfl ?_
  intro p e s m args below meth c s₁ B hml hv
  obtain ⟨rfl, hsz, hP, hK, hD0, hN⟩ := hv
  have hx := B.exec
  have hb := B.bytes
  have hr := B.returns
  have hts := atoms_spec (ws := wsX5_inLeastTerms) B.pre
  have hown : s.vm.findClass RX5 = some m.cls := findClass_of_methodNamed B.named
  have hlocks := B.notSynchronized
  subst hsz
  have hD := hD0.self (sz := s.heap.size)
  generalize hAe : va_A ([] : va_W) s.heap.size = A at hD ⊢
  have hA : ∀ q : Nat, s.heap.size ≤ q → A q := fun q h => by rw [← hAe]; exact Or.inr h
  have hS : va_S A s.heap s.heap [] := va_S.rf
  refine W_abs (fun Q hQ => ?_)
  have hl := lv_entry ([.int x0, .int x1, .int x2]) (n := 5) (Nat.le_of_ble_eq_true rfl)
  rw [lg_entry_eq]
  generalize (lg_sl ([.int x0, .int x1, .int x2]) ++ List.replicate (5 - (lg_sl ([.int x0, .int x1, .int x2])).length) Slot.unset).toArray = ls at hl ⊢
  have hl : lv_has ls 5 [(0, .int x0), (1, .int x1), (2, .int x2)] := hl
  rw [f_X5_inLeastTerms] at hrun
  refine W_start (ws := []) hP hS (fun H locs hP hS => ?_)
  refine lv_iload_n hx hb dX5_inLeastTerms_0 rfl (lv_at hl 0 rfl) ?_
  refine lv_iload_n hx hb dX5_inLeastTerms_1 rfl (lv_at hl 1 rfl) ?_
  obtain ⟨q2, hq2, hrun⟩ := bind_out hrun
  have hPc : va_P (dC, dI) vwCl [] H := hP.sub [] rfl
  have hDc : va_D A [] := hD.sub [] (by decide) rfl
  have hFc := va_free (wc := []) hD hS hA [] rfl
  refine va_calli (va_runS (As := [.int x0, .int x1]) (rest := []) ⟨hx, hb, hml, hown, hts⟩ (c_X5_commonDivisor l dC dI cI cZ H.size x0 x1 q2 hq2) (va_cwS 2 hts gX5_inLeastTerms_X5_commonDivisor rfl rfl rfl (by decide +kernel) ⟨Nat.le_of_ble_eq_true rfl, Nat.le_of_ble_eq_true rfl⟩) ⟨fun a U g mk q => ⟨q.1, PC.mv q.2⟩, fun U hU hW => ⟨rfl, PC.of hU hW hPc hK hDc hN⟩⟩ rfl rfl hl.1 rfl (lv_room (Nat.le_of_ble_eq_true rfl)) dX5_inLeastTerms_2 ⟨Nat.zero_le _, Nat.zero_le _⟩) hS (fun q _ h => hFc q h) hFc (fun r_2 u t H1 locs ht hvm hw hB hz1 hk1 hS => ?_)
  obtain ⟨hP1, hD1⟩ := hB
  try dsimp only at hw
  rw [hw]
  rw [ht] at hP1
  have hP : va_P (dC, dI) vwCl [] H1 := join_ro hP hD [] rfl hk1 hP1
  clear hPc hDc hFc hk1 hz1 hP1 hD1 ht hvm
  generalize H1 = H at hP hS ⊢
  refine lv_istore_n (lv' := [(3, .int q2), (0, .int x0), (1, .int x1), (2, .int x2)]) hx hb dX5_inLeastTerms_5 rfl hl (by decide) rfl (fun ls hl => ?_)
  refine lv_iload_n hx hb dX5_inLeastTerms_6 rfl (lv_at hl 3 rfl) ?_
  have J15 : ∀ (t0_15 : Int32) (H : Heap) (locs : List Loc), va_P (dC, dI) vwCl [] H → va_D A [] → va_S A s.heap H locs → ∀ ls : Array Slot, lv_has ls 5 [(3, .int q2)] → f_X5_inLeastTerms_J15 q2 t0_15 = some out → W p l e ({ frames := 1, cells := 0, slots := 0, locals := 25 } : Room) s m ([.int x0, .int x1, .int x2] : List Value).toArray below meth c H locs 0 0 Q (F0 m 15 ls [.int t0_15]) := by
    intro t0_15 H locs hP hD hS ls hl hrun
    rw [f_X5_inLeastTerms_J15] at hrun
    refine lv_istore (lv' := [(4, .int t0_15), (3, .int q2)]) hx hb dX5_inLeastTerms_15 hl (by decide) rfl (fun ls hl => ?_)
    refine lv_iload_n hx hb dX5_inLeastTerms_17 rfl (lv_at hl 1 rfl) ?_
    refine lv_if_le (tgt := 28) hx hb dX5_inLeastTerms_18 (by decide) (fun c_18 => ?_) (fun c_18 => ?_)
    · rw [if_pos c_18] at hrun
      refine lv_iload hx hb dX5_inLeastTerms_28 (lv_at hl 0 rfl) ?_
      have hrun := Option.some.inj hrun
      subst hrun
      rw [hQ]
      exact W.iret (v := t0_15) hx hb hr (fun t ht hW => ⟨⟨t0_15, (), rfl, rfl, by rw [ht]; exact hP, hD⟩, hS.F ht⟩) hS.2.2 dX5_inLeastTerms_30
    · rw [if_neg c_18] at hrun
      refine lv_iload hx hb dX5_inLeastTerms_21 (lv_at hl 0 rfl) ?_
      refine lv_iload_n hx hb dX5_inLeastTerms_23 rfl (lv_at hl 1 rfl) ?_
      refine lv_idiv hx hb dX5_inLeastTerms_24 (div_ok c_18) ?_
      refine lv_goto (tgt := 30) hx hb dX5_inLeastTerms_25 (by decide) ?_
      have hrun := Option.some.inj hrun
      subst hrun
      rw [hQ]
      exact W.iret (v := t0_15 / q2) hx hb hr (fun t ht hW => ⟨⟨t0_15 / q2, (), rfl, rfl, by rw [ht]; exact hP, hD⟩, hS.F ht⟩) hS.2.2 dX5_inLeastTerms_30
  refine lv_if_ne (tgt := 14) hx hb dX5_inLeastTerms_7 (by decide) (fun c_7 => ?_) (fun c_7 => ?_)
  · rw [if_neg c_7] at hrun
    refine lv_iload_n hx hb dX5_inLeastTerms_14 rfl (lv_at hl 2 rfl) ?_
    exact J15 x1 H locs hP hD hS ls (lv_sub hl [0] rfl) hrun
  · rw [if_pos c_7] at hrun
    refine lv_iload_n hx hb dX5_inLeastTerms_10 rfl (lv_at hl 1 rfl) ?_
    refine lv_goto (tgt := 15) hx hb dX5_inLeastTerms_11 (by decide) ?_
    exact J15 x0 H locs hP hD hS ls (lv_sub hl [0] rfl) hrun
-- SkyListeners.chance
def f_X5_chance_X104 (x3 : Int32) (x5 : Int32) (x6 : Int32) : Option (Int32) := ((f_X5_inLeastTerms (x5 - x6) x5 x3).bind fun q112 => (some q112))
def f_X5_chance_J98 (K34 : Int32 → Int32 → Int32 → Option (Int32)) (x3 : Int32) (x4 : Int32) (x7 : Int32) (d_told_askers_many : Int32) (d_told_askers_cells : Nat → Int32) (x5 : Int32) (x6 : Int32) : Option (Int32) := (K34 x5 x6 (x7 + 1))
def f_X5_chance_L34 (K104 : Int32 → Int32 → Option (Int32)) (x3 : Int32) (x4 : Int32) (d_told_askers_many : Int32) (d_told_askers_cells : Nat → Int32) : Nat → Int32 → Int32 → Int32 → Option (Int32)
  | 0, _, _, _ => none
  | n9 + 1, x5, x6, x7 => (if d_told_askers_many ≤ x7 then (K104 x5 x6) else (if (f_X5_hasBit x4 (f_X2_number d_told_askers_many d_told_askers_cells x7 0)) = 0 then (f_X5_chance_J98 (f_X5_chance_L34 K104 x3 x4 d_told_askers_many d_told_askers_cells n9) x3 x4 x7 d_told_askers_many d_told_askers_cells x5 x6) else (f_X5_chance_J98 (f_X5_chance_L34 K104 x3 x4 d_told_askers_many d_told_askers_cells n9) x3 x4 x7 d_told_askers_many d_told_askers_cells (x5 * 10) (x6 * (10 - (f_X2_number d_told_askers_many d_told_askers_cells x7 1))))))
def f_X5_chance (d_now_mounts_many : Int32) (d_now_mounts_cells : Nat → Int32) (d_told_askers_many : Int32) (d_told_askers_cells : Nat → Int32) (x1 : Int32) (x2 : Int32) (x3 : Int32) : Option (Int32) := (if (f_X5_areHours x1 x2) = 0 then (some (-1)) else (if (f_X5_isBit x3) = 0 then (some (-1)) else ((f_X5_placesSeenByAny d_now_mounts_many d_now_mounts_cells x1 x2).bind fun q20 => (f_X5_chance_L34 (f_X5_chance_X104 x3) x3 q20 d_told_askers_many d_told_askers_cells FU 1 1 0))))
set_option maxHeartbeats 4000000 in
set_option maxRecDepth 100000 in
theorem c_X5_chance (l : Launch) (dC : Nat → ClassId) (dI : Nat → Nat → Nat) (cI cZ : ClassId) (sz : Nat) (p_draft p_imageOne p_imageZero p_now p_now_lendings p_now_log p_now_mounts p_now_mounts_cells p_now_undos p_placesOf p_reader p_slots p_text p_this p_told p_told_askers p_told_askers_cells p_told_dishes p_told_noises p_told_speakers : Nat) (d_keptImages : Int32) (d_traced : Int64) (d_now_mounts_most : Int32) (d_now_mounts_many : Int32) (d_now_mounts_cells : Nat → Int32) (d_told_askers_most : Int32) (d_told_askers_many : Int32) (d_told_askers_cells : Nat → Int32) (x1 : Int32) (x2 : Int32) (x3 : Int32) (out : Int32) (hrun : f_X5_chance d_now_mounts_many d_now_mounts_cells d_told_askers_many d_told_askers_cells x1 x2 x3 = some out) : Met l yX5_chance wsX5_chance ({ frames := 5, cells := 0, slots := 0, locals := 115 } : Room) (va_Pc [.ref p_this, .int x1, .int x2, .int x3] (PC dC dI cI cZ sz ([(p_this, .inr (5, [.ref p_text, .ref p_reader, .ref p_told, .ref p_draft, .ref p_now, .ref p_imageZero, .ref p_imageOne, .ref p_slots, .ref p_placesOf, .int d_keptImages, .long d_traced])), (p_now, .inr (0, [.ref p_now_mounts, .ref p_now_lendings, .ref p_now_log, .ref p_now_undos])), (p_now_mounts, .inr (2, [.int d_now_mounts_most, .ref p_now_mounts_cells, .int d_now_mounts_many])), (p_now_mounts_cells, .inl (cI, 48, .inl d_now_mounts_cells)), (p_told, .inr (4, [.ref p_told_dishes, .ref p_told_speakers, .ref p_told_noises, .ref p_told_askers])), (p_told_askers, .inr (2, [.int d_told_askers_most, .ref p_told_askers_cells, .int d_told_askers_many])), (p_told_askers_cells, .inl (cI, 48, .inl d_told_askers_cells))] : va_W))) (va_Qi (fun r (_ : Unit) => r = out) (fun _ t => va_P (dC, dI) vwCl [(p_this, .inr (5, [.ref p_text, .ref p_reader, .ref p_told, .ref p_draft, .ref p_now, .ref p_imageZero, .ref p_imageOne, .ref p_slots, .ref p_placesOf, .int d_keptImages, .long d_traced])), (p_now, .inr (0, [.ref p_now_mounts, .ref p_now_lendings, .ref p_now_log, .ref p_now_undos])), (p_now_mounts, .inr (2, [.int d_now_mounts_most, .ref p_now_mounts_cells, .int d_now_mounts_many])), (p_now_mounts_cells, .inl (cI, 48, .inl d_now_mounts_cells)), (p_told, .inr (4, [.ref p_told_dishes, .ref p_told_speakers, .ref p_told_noises, .ref p_told_askers])), (p_told_askers, .inr (2, [.int d_told_askers_most, .ref p_told_askers_cells, .int d_told_askers_many])), (p_told_askers_cells, .inl (cI, 48, .inl d_told_askers_cells))] t.heap ∧ va_D (va_A ([(p_this, .inr (5, [.ref p_text, .ref p_reader, .ref p_told, .ref p_draft, .ref p_now, .ref p_imageZero, .ref p_imageOne, .ref p_slots, .ref p_placesOf, .int d_keptImages, .long d_traced])), (p_now, .inr (0, [.ref p_now_mounts, .ref p_now_lendings, .ref p_now_log, .ref p_now_undos])), (p_now_mounts, .inr (2, [.int d_now_mounts_most, .ref p_now_mounts_cells, .int d_now_mounts_many])), (p_now_mounts_cells, .inl (cI, 48, .inl d_now_mounts_cells)), (p_told, .inr (4, [.ref p_told_dishes, .ref p_told_speakers, .ref p_told_noises, .ref p_told_askers])), (p_told_askers, .inr (2, [.int d_told_askers_most, .ref p_told_askers_cells, .int d_told_askers_many])), (p_told_askers_cells, .inl (cI, 48, .inl d_told_askers_cells))] : va_W) sz) [(p_this, .inr (5, [.ref p_text, .ref p_reader, .ref p_told, .ref p_draft, .ref p_now, .ref p_imageZero, .ref p_imageOne, .ref p_slots, .ref p_placesOf, .int d_keptImages, .long d_traced])), (p_now, .inr (0, [.ref p_now_mounts, .ref p_now_lendings, .ref p_now_log, .ref p_now_undos])), (p_now_mounts, .inr (2, [.int d_now_mounts_most, .ref p_now_mounts_cells, .int d_now_mounts_many])), (p_now_mounts_cells, .inl (cI, 48, .inl d_now_mounts_cells)), (p_told, .inr (4, [.ref p_told_dishes, .ref p_told_speakers, .ref p_told_noises, .ref p_told_askers])), (p_told_askers, .inr (2, [.int d_told_askers_most, .ref p_told_askers_cells, .int d_told_askers_many])), (p_told_askers_cells, .inl (cI, 48, .inl d_told_askers_cells))]) (va_A ([(p_this, .inr (5, [.ref p_text, .ref p_reader, .ref p_told, .ref p_draft, .ref p_now, .ref p_imageZero, .ref p_imageOne, .ref p_slots, .ref p_placesOf, .int d_keptImages, .long d_traced])), (p_now, .inr (0, [.ref p_now_mounts, .ref p_now_lendings, .ref p_now_log, .ref p_now_undos])), (p_now_mounts, .inr (2, [.int d_now_mounts_most, .ref p_now_mounts_cells, .int d_now_mounts_many])), (p_now_mounts_cells, .inl (cI, 48, .inl d_now_mounts_cells)), (p_told, .inr (4, [.ref p_told_dishes, .ref p_told_speakers, .ref p_told_noises, .ref p_told_askers])), (p_told_askers, .inr (2, [.int d_told_askers_most, .ref p_told_askers_cells, .int d_told_askers_many])), (p_told_askers_cells, .inl (cI, 48, .inl d_told_askers_cells))] : va_W) sz)) 0 0 (va_A ([(p_this, .inr (5, [.ref p_text, .ref p_reader, .ref p_told, .ref p_draft, .ref p_now, .ref p_imageZero, .ref p_imageOne, .ref p_slots, .ref p_placesOf, .int d_keptImages, .long d_traced])), (p_now, .inr (0, [.ref p_now_mounts, .ref p_now_lendings, .ref p_now_log, .ref p_now_undos])), (p_now_mounts, .inr (2, [.int d_now_mounts_most, .ref p_now_mounts_cells, .int d_now_mounts_many])), (p_now_mounts_cells, .inl (cI, 48, .inl d_now_mounts_cells)), (p_told, .inr (4, [.ref p_told_dishes, .ref p_told_speakers, .ref p_told_noises, .ref p_told_askers])), (p_told_askers, .inr (2, [.int d_told_askers_most, .ref p_told_askers_cells, .int d_told_askers_many])), (p_told_askers_cells, .inl (cI, 48, .inl d_told_askers_cells))] : va_W) sz) := by
  refine Met.ofW (cc := cX5_chance) (maxL := 8) (ret := (some .int)) (by decide) rfl ?_
  intro p e s m args below meth c s₁ B hml hv
  obtain ⟨rfl, hsz, hP, hK, hD0, hN⟩ := hv
  have hx := B.exec
  have hb := B.bytes
  have hr := B.returns
  have hts := atoms_spec (ws := wsX5_chance) B.pre
  have hown : s.vm.findClass RX5 = some m.cls := findClass_of_methodNamed B.named
  have hlocks := B.notSynchronized
  subst hsz
  have hD := hD0.self (sz := s.heap.size)
  generalize hAe : va_A ([(p_this, .inr (5, [.ref p_text, .ref p_reader, .ref p_told, .ref p_draft, .ref p_now, .ref p_imageZero, .ref p_imageOne, .ref p_slots, .ref p_placesOf, .int d_keptImages, .long d_traced])), (p_now, .inr (0, [.ref p_now_mounts, .ref p_now_lendings, .ref p_now_log, .ref p_now_undos])), (p_now_mounts, .inr (2, [.int d_now_mounts_most, .ref p_now_mounts_cells, .int d_now_mounts_many])), (p_now_mounts_cells, .inl (cI, 48, .inl d_now_mounts_cells)), (p_told, .inr (4, [.ref p_told_dishes, .ref p_told_speakers, .ref p_told_noises, .ref p_told_askers])), (p_told_askers, .inr (2, [.int d_told_askers_most, .ref p_told_askers_cells, .int d_told_askers_many])), (p_told_askers_cells, .inl (cI, 48, .inl d_told_askers_cells))] : va_W) s.heap.size = A at hD ⊢
  have hA : ∀ q : Nat, s.heap.size ≤ q → A q := fun q h => by rw [← hAe]; exact Or.inr h
  have hS : va_S A s.heap s.heap [] := va_S.rf
  refine W_abs (fun Q hQ => ?_)
  have hl := lv_entry ([.ref p_this, .int x1, .int x2, .int x3]) (n := 8) (Nat.le_of_ble_eq_true rfl)
  rw [lg_entry_eq]
  generalize (lg_sl ([.ref p_this, .int x1, .int x2, .int x3]) ++ List.replicate (8 - (lg_sl ([.ref p_this, .int x1, .int x2, .int x3])).length) Slot.unset).toArray = ls at hl ⊢
  have hl : lv_has ls 8 [(0, .ref p_this), (1, .int x1), (2, .int x2), (3, .int x3)] := hl
  rw [f_X5_chance] at hrun
  refine W_start (ws := [(p_this, .inr (5, [.ref p_text, .ref p_reader, .ref p_told, .ref p_draft, .ref p_now, .ref p_imageZero, .ref p_imageOne, .ref p_slots, .ref p_placesOf, .int d_keptImages, .long d_traced])), (p_now, .inr (0, [.ref p_now_mounts, .ref p_now_lendings, .ref p_now_log, .ref p_now_undos])), (p_now_mounts, .inr (2, [.int d_now_mounts_most, .ref p_now_mounts_cells, .int d_now_mounts_many])), (p_now_mounts_cells, .inl (cI, 48, .inl d_now_mounts_cells)), (p_told, .inr (4, [.ref p_told_dishes, .ref p_told_speakers, .ref p_told_noises, .ref p_told_askers])), (p_told_askers, .inr (2, [.int d_told_askers_most, .ref p_told_askers_cells, .int d_told_askers_many])), (p_told_askers_cells, .inl (cI, 48, .inl d_told_askers_cells))]) hP hS (fun H locs hP hS => ?_)
  have iwX2 : ∀ w ∈ wsX20, w ∈ wsX5_chance := by decide +kernel
  have iwX4 : ∀ w ∈ wsX40, w ∈ wsX5_chance := by decide +kernel
  have iwX5 : ∀ w ∈ wsX50, w ∈ wsX5_chance := by decide +kernel
  refine lv_iload_n hx hb dX5_chance_0 rfl (lv_at hl 1 rfl) ?_
  refine lv_iload_n hx hb dX5_chance_1 rfl (lv_at hl 2 rfl) ?_
  have hPc : va_P (dC, dI) vwCl [] H := hP.sub [] rfl
  have hDc : va_D A [] := hD.sub [] (by decide) rfl
  have hFc := va_free (wc := []) hD hS hA [] rfl
  refine va_calli (va_runS (As := [.int x1, .int x2]) (rest := []) ⟨hx, hb, hml, hown, hts⟩ (c_X5_areHours l dC dI cI cZ H.size x1 x2 (f_X5_areHours x1 x2) rfl) (va_cwS 2 hts gX5_chance_X5_areHours rfl rfl rfl (by decide +kernel) ⟨Nat.le_of_ble_eq_true rfl, Nat.le_of_ble_eq_true rfl⟩) ⟨fun a U g mk q => ⟨q.1, PC.mv q.2⟩, fun U hU hW => ⟨rfl, PC.of hU hW hPc hK hDc hN⟩⟩ rfl rfl hl.1 rfl (lv_room (Nat.le_of_ble_eq_true rfl)) dX5_chance_2 ⟨Nat.zero_le _, Nat.zero_le _⟩) hS (fun q _ h => hFc q h) hFc (fun r_2 u t H1 locs ht hvm hw hB hz1 hk1 hS => ?_)
  obtain ⟨hP1, hD1⟩ := hB
  try dsimp only at hw
  rw [hw]
  rw [ht] at hP1
  have hP : va_P (dC, dI) vwCl [(p_this, .inr (5, [.ref p_text, .ref p_reader, .ref p_told, .ref p_draft, .ref p_now, .ref p_imageZero, .ref p_imageOne, .ref p_slots, .ref p_placesOf, .int d_keptImages, .long d_traced])), (p_now, .inr (0, [.ref p_now_mounts, .ref p_now_lendings, .ref p_now_log, .ref p_now_undos])), (p_now_mounts, .inr (2, [.int d_now_mounts_most, .ref p_now_mounts_cells, .int d_now_mounts_many])), (p_now_mounts_cells, .inl (cI, 48, .inl d_now_mounts_cells)), (p_told, .inr (4, [.ref p_told_dishes, .ref p_told_speakers, .ref p_told_noises, .ref p_told_askers])), (p_told_askers, .inr (2, [.int d_told_askers_most, .ref p_told_askers_cells, .int d_told_askers_many])), (p_told_askers_cells, .inl (cI, 48, .inl d_told_askers_cells))] H1 := join_ro hP hD [] rfl hk1 hP1
  clear hPc hDc hFc hk1 hz1 hP1 hD1 ht hvm
  generalize H1 = H at hP hS ⊢
  refine lv_if_eq (tgt := 15) hx hb dX5_chance_5 (by decide) (fun c_5 => ?_) (fun c_5 => ?_)
  · rw [if_pos c_5] at hrun
    refine lv_iconst (v := (-1)) hx hb dX5_chance_15 (by decide) ?_
    have hrun := Option.some.inj hrun
    subst hrun
    rw [hQ]
    exact W.iret (v := (-1)) hx hb hr (fun t ht hW => ⟨⟨(-1), (), rfl, rfl, by rw [ht]; exact hP, hD⟩, hS.F ht⟩) hS.2.2 dX5_chance_16
  · rw [if_neg c_5] at hrun
    refine lv_iload_n hx hb dX5_chance_8 rfl (lv_at hl 3 rfl) ?_
    have hPc : va_P (dC, dI) vwCl [] H := hP.sub [] rfl
    have hDc : va_D A [] := hD.sub [] (by decide) rfl
    have hFc := va_free (wc := []) hD hS hA [] rfl
    refine va_calli (va_runS (As := [.int x3]) (rest := []) ⟨hx, hb, hml, hown, hts⟩ (c_X5_isBit l dC dI cI cZ H.size x3 (f_X5_isBit x3) rfl) (va_cwS 1 hts gX5_chance_X5_isBit rfl rfl rfl (by decide +kernel) ⟨Nat.le_of_ble_eq_true rfl, Nat.le_of_ble_eq_true rfl⟩) ⟨fun a U g mk q => ⟨q.1, PC.mv q.2⟩, fun U hU hW => ⟨rfl, PC.of hU hW hPc hK hDc hN⟩⟩ rfl rfl hl.1 rfl (lv_room (Nat.le_of_ble_eq_true rfl)) dX5_chance_9 ⟨Nat.zero_le _, Nat.zero_le _⟩) hS (fun q _ h => hFc q h) hFc (fun r_9 u t H1 locs ht hvm hw hB hz1 hk1 hS => ?_)
    obtain ⟨hP1, hD1⟩ := hB
    try dsimp only at hw
    rw [hw]
    rw [ht] at hP1
    have hP : va_P (dC, dI) vwCl [(p_this, .inr (5, [.ref p_text, .ref p_reader, .ref p_told, .ref p_draft, .ref p_now, .ref p_imageZero, .ref p_imageOne, .ref p_slots, .ref p_placesOf, .int d_keptImages, .long d_traced])), (p_now, .inr (0, [.ref p_now_mounts, .ref p_now_lendings, .ref p_now_log, .ref p_now_undos])), (p_now_mounts, .inr (2, [.int d_now_mounts_most, .ref p_now_mounts_cells, .int d_now_mounts_many])), (p_now_mounts_cells, .inl (cI, 48, .inl d_now_mounts_cells)), (p_told, .inr (4, [.ref p_told_dishes, .ref p_told_speakers, .ref p_told_noises, .ref p_told_askers])), (p_told_askers, .inr (2, [.int d_told_askers_most, .ref p_told_askers_cells, .int d_told_askers_many])), (p_told_askers_cells, .inl (cI, 48, .inl d_told_askers_cells))] H1 := join_ro hP hD [] rfl hk1 hP1
    clear hPc hDc hFc hk1 hz1 hP1 hD1 ht hvm
    generalize H1 = H at hP hS ⊢
    refine lv_if_ne (tgt := 17) hx hb dX5_chance_12 (by decide) (fun c_12 => ?_) (fun c_12 => ?_)
    · rw [if_neg c_12] at hrun
      refine lv_aload_n hx hb dX5_chance_17 rfl (lv_at hl 0 rfl) ?_
      refine lv_iload_n hx hb dX5_chance_18 rfl (lv_at hl 1 rfl) ?_
      refine lv_iload_n hx hb dX5_chance_19 rfl (lv_at hl 2 rfl) ?_
      obtain ⟨q20, hq20, hrun⟩ := bind_out hrun
      have hPc : va_P (dC, dI) vwCl [(p_this, .inr (5, [.ref p_text, .ref p_reader, .ref p_told, .ref p_draft, .ref p_now, .ref p_imageZero, .ref p_imageOne, .ref p_slots, .ref p_placesOf, .int d_keptImages, .long d_traced])), (p_now, .inr (0, [.ref p_now_mounts, .ref p_now_lendings, .ref p_now_log, .ref p_now_undos])), (p_now_mounts, .inr (2, [.int d_now_mounts_most, .ref p_now_mounts_cells, .int d_now_mounts_many])), (p_now_mounts_cells, .inl (cI, 48, .inl d_now_mounts_cells))] H := hP.sub [0, 1, 2, 3] rfl
      have hDc : va_D A [(p_this, .inr (5, [.ref p_text, .ref p_reader, .ref p_told, .ref p_draft, .ref p_now, .ref p_imageZero, .ref p_imageOne, .ref p_slots, .ref p_placesOf, .int d_keptImages, .long d_traced])), (p_now, .inr (0, [.ref p_now_mounts, .ref p_now_lendings, .ref p_now_log, .ref p_now_undos])), (p_now_mounts, .inr (2, [.int d_now_mounts_most, .ref p_now_mounts_cells, .int d_now_mounts_many])), (p_now_mounts_cells, .inl (cI, 48, .inl d_now_mounts_cells))] := hD.sub [0, 1, 2, 3] (by decide) rfl
      have hFc := va_free (wc := [(p_this, .inr (5, [.ref p_text, .ref p_reader, .ref p_told, .ref p_draft, .ref p_now, .ref p_imageZero, .ref p_imageOne, .ref p_slots, .ref p_placesOf, .int d_keptImages, .long d_traced])), (p_now, .inr (0, [.ref p_now_mounts, .ref p_now_lendings, .ref p_now_log, .ref p_now_undos])), (p_now_mounts, .inr (2, [.int d_now_mounts_most, .ref p_now_mounts_cells, .int d_now_mounts_many])), (p_now_mounts_cells, .inl (cI, 48, .inl d_now_mounts_cells))]) hD hS hA [0, 1, 2, 3] rfl
      refine va_calli (va_runV (As := [.int x1, .int x2]) (rest := []) ⟨hx, hb, hml, hown, hts⟩ (c_X5_placesSeenByAny l dC dI cI cZ H.size p_draft p_imageOne p_imageZero p_now p_now_lendings p_now_log p_now_mounts p_now_mounts_cells p_now_undos p_placesOf p_reader p_slots p_text p_this p_told d_keptImages d_traced d_now_mounts_most d_now_mounts_many d_now_mounts_cells x1 x2 q20 hq20) (cwV 2 hts gX5_chance_X5_placesSeenByAny rfl rfl rfl (by decide +kernel) ⟨Nat.le_of_ble_eq_true rfl, Nat.le_of_ble_eq_true rfl⟩) ⟨fun a U g mk q => ⟨q.1, PC.mv q.2⟩, va_recv hK hP (ci := 5) (q0 := 0) rfl rfl, fun U hU hW => ⟨rfl, PC.of hU hW hPc hK hDc hN⟩⟩ rfl rfl hl.1 rfl (lv_room (Nat.le_of_ble_eq_true rfl)) dX5_chance_20 ⟨Nat.zero_le _, Nat.zero_le _⟩) hS (fun q _ h => hFc q h) hFc (fun r_20 u t H1 locs ht hvm hw hB hz1 hk1 hS => ?_)
      obtain ⟨hP1, hD1⟩ := hB
      try dsimp only at hw
      rw [hw]
      rw [ht] at hP1
      have hP : va_P (dC, dI) vwCl [(p_this, .inr (5, [.ref p_text, .ref p_reader, .ref p_told, .ref p_draft, .ref p_now, .ref p_imageZero, .ref p_imageOne, .ref p_slots, .ref p_placesOf, .int d_keptImages, .long d_traced])), (p_now, .inr (0, [.ref p_now_mounts, .ref p_now_lendings, .ref p_now_log, .ref p_now_undos])), (p_now_mounts, .inr (2, [.int d_now_mounts_most, .ref p_now_mounts_cells, .int d_now_mounts_many])), (p_now_mounts_cells, .inl (cI, 48, .inl d_now_mounts_cells)), (p_told, .inr (4, [.ref p_told_dishes, .ref p_told_speakers, .ref p_told_noises, .ref p_told_askers])), (p_told_askers, .inr (2, [.int d_told_askers_most, .ref p_told_askers_cells, .int d_told_askers_many])), (p_told_askers_cells, .inl (cI, 48, .inl d_told_askers_cells))] H1 := join_ro hP hD [0, 1, 2, 3] rfl hk1 hP1
      clear hPc hDc hFc hk1 hz1 hP1 hD1 ht hvm
      generalize H1 = H at hP hS ⊢
      refine lv_istore (lv' := [(4, .int q20), (0, .ref p_this), (1, .int x1), (2, .int x2), (3, .int x3)]) hx hb dX5_chance_23 hl (by decide) rfl (fun ls hl => ?_)
      refine lv_iconst (v := 1) hx hb dX5_chance_25 (by decide) ?_
      refine lv_istore (lv' := [(5, .int 1), (4, .int q20), (0, .ref p_this), (1, .int x1), (2, .int x2), (3, .int x3)]) hx hb dX5_chance_26 hl (by decide) rfl (fun ls hl => ?_)
      refine lv_iconst (v := 1) hx hb dX5_chance_28 (by decide) ?_
      refine lv_istore (lv' := [(6, .int 1), (5, .int 1), (4, .int q20), (0, .ref p_this), (1, .int x1), (2, .int x2), (3, .int x3)]) hx hb dX5_chance_29 hl (by decide) rfl (fun ls hl => ?_)
      refine lv_iconst (v := 0) hx hb dX5_chance_31 (by decide) ?_
      refine lv_istore (lv' := [(7, .int 0), (6, .int 1), (5, .int 1), (4, .int q20), (0, .ref p_this), (1, .int x1), (2, .int x2), (3, .int x3)]) hx hb dX5_chance_32 hl (by decide) rfl (fun ls hl => ?_)
      have X104 : ∀ (x5_104 : Int32) (x6_104 : Int32) (H : Heap) (locs : List Loc), va_P (dC, dI) vwCl [(p_this, .inr (5, [.ref p_text, .ref p_reader, .ref p_told, .ref p_draft, .ref p_now, .ref p_imageZero, .ref p_imageOne, .ref p_slots, .ref p_placesOf, .int d_keptImages, .long d_traced])), (p_now, .inr (0, [.ref p_now_mounts, .ref p_now_lendings, .ref p_now_log, .ref p_now_undos])), (p_now_mounts, .inr (2, [.int d_now_mounts_most, .ref p_now_mounts_cells, .int d_now_mounts_many])), (p_now_mounts_cells, .inl (cI, 48, .inl d_now_mounts_cells)), (p_told, .inr (4, [.ref p_told_dishes, .ref p_told_speakers, .ref p_told_noises, .ref p_told_askers])), (p_told_askers, .inr (2, [.int d_told_askers_most, .ref p_told_askers_cells, .int d_told_askers_many])), (p_told_askers_cells, .inl (cI, 48, .inl d_told_askers_cells))] H → va_D A [(p_this, .inr (5, [.ref p_text, .ref p_reader, .ref p_told, .ref p_draft, .ref p_now, .ref p_imageZero, .ref p_imageOne, .ref p_slots, .ref p_placesOf, .int d_keptImages, .long d_traced])), (p_now, .inr (0, [.ref p_now_mounts, .ref p_now_lendings, .ref p_now_log, .ref p_now_undos])), (p_now_mounts, .inr (2, [.int d_now_mounts_most, .ref p_now_mounts_cells, .int d_now_mounts_many])), (p_now_mounts_cells, .inl (cI, 48, .inl d_now_mounts_cells)), (p_told, .inr (4, [.ref p_told_dishes, .ref p_told_speakers, .ref p_told_noises, .ref p_told_askers])), (p_told_askers, .inr (2, [.int d_told_askers_most, .ref p_told_askers_cells, .int d_told_askers_many])), (p_told_askers_cells, .inl (cI, 48, .inl d_told_askers_cells))] → va_S A s.heap H locs → ∀ ls : Array Slot, lv_has ls 8 [(3, .int x3), (5, .int x5_104), (6, .int x6_104)] → f_X5_chance_X104 x3 x5_104 x6_104 = some out → W p l e ({ frames := 5, cells := 0, slots := 0, locals := 115 } : Room) s m ([.ref p_this, .int x1, .int x2, .int x3] : List Value).toArray below meth c H locs 0 0 Q (F0 m 104 ls []) := by
        intro x5_104 x6_104 H locs hP hD hS ls hl hrun
        rw [f_X5_chance_X104] at hrun
        refine lv_iload hx hb dX5_chance_104 (lv_at hl 1 rfl) ?_
        refine lv_iload hx hb dX5_chance_106 (lv_at hl 2 rfl) ?_
        refine lv_isub hx hb dX5_chance_108 ?_
        refine lv_iload hx hb dX5_chance_109 (lv_at hl 1 rfl) ?_
        refine lv_iload_n hx hb dX5_chance_111 rfl (lv_at hl 0 rfl) ?_
        obtain ⟨q112, hq112, hrun⟩ := bind_out hrun
        have hPc : va_P (dC, dI) vwCl [] H := hP.sub [] rfl
        have hDc : va_D A [] := hD.sub [] (by decide) rfl
        have hFc := va_free (wc := []) hD hS hA [] rfl
        refine va_calli (va_runS (As := [.int (x5_104 - x6_104), .int x5_104, .int x3]) (rest := []) ⟨hx, hb, hml, hown, hts⟩ (c_X5_inLeastTerms l dC dI cI cZ H.size (x5_104 - x6_104) x5_104 x3 q112 hq112) (va_cwS 3 hts gX5_chance_X5_inLeastTerms rfl rfl rfl (by decide +kernel) ⟨Nat.le_of_ble_eq_true rfl, Nat.le_of_ble_eq_true rfl⟩) ⟨fun a U g mk q => ⟨q.1, PC.mv q.2⟩, fun U hU hW => ⟨rfl, PC.of hU hW hPc hK hDc hN⟩⟩ rfl rfl hl.1 rfl (lv_room (Nat.le_of_ble_eq_true rfl)) dX5_chance_112 ⟨Nat.zero_le _, Nat.zero_le _⟩) hS (fun q _ h => hFc q h) hFc (fun r_112 u t H1 locs ht hvm hw hB hz1 hk1 hS => ?_)
        obtain ⟨hP1, hD1⟩ := hB
        try dsimp only at hw
        rw [hw]
        rw [ht] at hP1
        have hP : va_P (dC, dI) vwCl [(p_this, .inr (5, [.ref p_text, .ref p_reader, .ref p_told, .ref p_draft, .ref p_now, .ref p_imageZero, .ref p_imageOne, .ref p_slots, .ref p_placesOf, .int d_keptImages, .long d_traced])), (p_now, .inr (0, [.ref p_now_mounts, .ref p_now_lendings, .ref p_now_log, .ref p_now_undos])), (p_now_mounts, .inr (2, [.int d_now_mounts_most, .ref p_now_mounts_cells, .int d_now_mounts_many])), (p_now_mounts_cells, .inl (cI, 48, .inl d_now_mounts_cells)), (p_told, .inr (4, [.ref p_told_dishes, .ref p_told_speakers, .ref p_told_noises, .ref p_told_askers])), (p_told_askers, .inr (2, [.int d_told_askers_most, .ref p_told_askers_cells, .int d_told_askers_many])), (p_told_askers_cells, .inl (cI, 48, .inl d_told_askers_cells))] H1 := join_ro hP hD [] rfl hk1 hP1
        clear hPc hDc hFc hk1 hz1 hP1 hD1 ht hvm
        generalize H1 = H at hP hS ⊢
        have hrun := Option.some.inj hrun
        subst hrun
        rw [hQ]
        exact W.iret (v := q112) hx hb hr (fun t ht hW => ⟨⟨q112, (), rfl, rfl, by rw [ht]; exact hP, hD⟩, hS.F ht⟩) hS.2.2 dX5_chance_115
      have L34 : ∀ (n9_34 : Nat) (x5_34 : Int32) (x6_34 : Int32) (x7_34 : Int32) (H : Heap) (locs : List Loc), va_P (dC, dI) vwCl [(p_this, .inr (5, [.ref p_text, .ref p_reader, .ref p_told, .ref p_draft, .ref p_now, .ref p_imageZero, .ref p_imageOne, .ref p_slots, .ref p_placesOf, .int d_keptImages, .long d_traced])), (p_now, .inr (0, [.ref p_now_mounts, .ref p_now_lendings, .ref p_now_log, .ref p_now_undos])), (p_now_mounts, .inr (2, [.int d_now_mounts_most, .ref p_now_mounts_cells, .int d_now_mounts_many])), (p_now_mounts_cells, .inl (cI, 48, .inl d_now_mounts_cells)), (p_told, .inr (4, [.ref p_told_dishes, .ref p_told_speakers, .ref p_told_noises, .ref p_told_askers])), (p_told_askers, .inr (2, [.int d_told_askers_most, .ref p_told_askers_cells, .int d_told_askers_many])), (p_told_askers_cells, .inl (cI, 48, .inl d_told_askers_cells))] H → va_D A [(p_this, .inr (5, [.ref p_text, .ref p_reader, .ref p_told, .ref p_draft, .ref p_now, .ref p_imageZero, .ref p_imageOne, .ref p_slots, .ref p_placesOf, .int d_keptImages, .long d_traced])), (p_now, .inr (0, [.ref p_now_mounts, .ref p_now_lendings, .ref p_now_log, .ref p_now_undos])), (p_now_mounts, .inr (2, [.int d_now_mounts_most, .ref p_now_mounts_cells, .int d_now_mounts_many])), (p_now_mounts_cells, .inl (cI, 48, .inl d_now_mounts_cells)), (p_told, .inr (4, [.ref p_told_dishes, .ref p_told_speakers, .ref p_told_noises, .ref p_told_askers])), (p_told_askers, .inr (2, [.int d_told_askers_most, .ref p_told_askers_cells, .int d_told_askers_many])), (p_told_askers_cells, .inl (cI, 48, .inl d_told_askers_cells))] → va_S A s.heap H locs → ∀ ls : Array Slot, lv_has ls 8 [(0, .ref p_this), (3, .int x3), (4, .int q20), (5, .int x5_34), (6, .int x6_34), (7, .int x7_34)] → f_X5_chance_L34 (f_X5_chance_X104 x3) x3 q20 d_told_askers_many d_told_askers_cells n9_34 x5_34 x6_34 x7_34 = some out → W p l e ({ frames := 5, cells := 0, slots := 0, locals := 115 } : Room) s m ([.ref p_this, .int x1, .int x2, .int x3] : List Value).toArray below meth c H locs 0 0 Q (F0 m 34 ls []) := by
        intro n9_34
        induction n9_34 with
        | zero =>
          intro x5_34 x6_34 x7_34 H locs hP hD hS ls hl hrun
          rw [f_X5_chance_L34] at hrun
          cases hrun
        | succ n9_34 ih34 =>
          intro x5_34 x6_34 x7_34 H locs hP hD hS ls hl hrun
          rw [f_X5_chance_L34] at hrun
          refine lv_iload hx hb dX5_chance_34 (lv_at hl 5 rfl) ?_
          refine lv_aload_n hx hb dX5_chance_36 rfl (lv_at hl 0 rfl) ?_
          refine va_get (D := (dC, dI)) (ci := 5) (v := .ref p_told) (C := RX5) (T := TX5) (N := 11) hx hb hts iwX5 hown hK hP 0 rfl rfl 2 (by decide) (hts (.fieldLink RX5 26 "SkyListeners" "told" "LSkyListeners$Valley;") (by decide +kernel)) (fun _ h9 => h9) rfl dX5_chance_37 ?_
          refine va_get (D := (dC, dI)) (ci := 4) (v := .ref p_told_askers) (C := RX4) (T := TX4) (N := 4) hx hb hts iwX4 hown hK hP 4 rfl rfl 3 (by decide) (hts (.fieldLink RX5 106 "SkyListeners$Valley" "askers" "LSkyListeners$Rows;") (by decide +kernel)) (fun _ h9 => h9) rfl dX5_chance_40 ?_
          refine va_get (D := (dC, dI)) (ci := 2) (v := .int d_told_askers_many) (C := RX2) (T := TX2) (N := 3) hx hb hts iwX2 hown hK hP 5 rfl rfl 2 (by decide) (hts (.fieldLink RX5 136 "SkyListeners$Rows" "many" "I") (by decide +kernel)) (fun _ h9 => h9) rfl dX5_chance_43 ?_
          refine lv_icmp_ge (tgt := 104) hx hb dX5_chance_46 (by decide) (fun c_46 => ?_) (fun c_46 => ?_)
          · rw [if_pos c_46] at hrun
            exact X104 x5_34 x6_34 H locs hP hD hS ls (lv_sub hl [1, 3, 4] rfl) hrun
          · rw [if_neg c_46] at hrun
            refine lv_iload hx hb dX5_chance_49 (lv_at hl 2 rfl) ?_
            refine lv_aload_n hx hb dX5_chance_51 rfl (lv_at hl 0 rfl) ?_
            refine va_get (D := (dC, dI)) (ci := 5) (v := .ref p_told) (C := RX5) (T := TX5) (N := 11) hx hb hts iwX5 hown hK hP 0 rfl rfl 2 (by decide) (hts (.fieldLink RX5 26 "SkyListeners" "told" "LSkyListeners$Valley;") (by decide +kernel)) (fun _ h9 => h9) rfl dX5_chance_52 ?_
            refine va_get (D := (dC, dI)) (ci := 4) (v := .ref p_told_askers) (C := RX4) (T := TX4) (N := 4) hx hb hts iwX4 hown hK hP 4 rfl rfl 3 (by decide) (hts (.fieldLink RX5 106 "SkyListeners$Valley" "askers" "LSkyListeners$Rows;") (by decide +kernel)) (fun _ h9 => h9) rfl dX5_chance_55 ?_
            refine lv_iload hx hb dX5_chance_58 (lv_at hl 5 rfl) ?_
            refine lv_iconst (v := 0) hx hb dX5_chance_60 (by decide) ?_
            have hPc : va_P (dC, dI) vwCl [(p_told_askers, .inr (2, [.int d_told_askers_most, .ref p_told_askers_cells, .int d_told_askers_many])), (p_told_askers_cells, .inl (cI, 48, .inl d_told_askers_cells))] H := hP.sub [5, 6] rfl
            have hDc : va_D A [(p_told_askers, .inr (2, [.int d_told_askers_most, .ref p_told_askers_cells, .int d_told_askers_many])), (p_told_askers_cells, .inl (cI, 48, .inl d_told_askers_cells))] := hD.sub [5, 6] (by decide) rfl
            have hFc := va_free (wc := [(p_told_askers, .inr (2, [.int d_told_askers_most, .ref p_told_askers_cells, .int d_told_askers_many])), (p_told_askers_cells, .inl (cI, 48, .inl d_told_askers_cells))]) hD hS hA [5, 6] rfl
            refine va_calli (va_runV (As := [.int x7_34, .int 0]) (rest := [.int q20]) ⟨hx, hb, hml, hown, hts⟩ (c_X2_number l dC dI cI cZ H.size p_told_askers_cells p_told_askers d_told_askers_most d_told_askers_many d_told_askers_cells x7_34 0 (f_X2_number d_told_askers_many d_told_askers_cells x7_34 0) rfl) (cwV 2 hts gX5_chance_X2_number rfl rfl rfl (by decide +kernel) ⟨Nat.le_of_ble_eq_true rfl, Nat.le_of_ble_eq_true rfl⟩) ⟨fun a U g mk q => ⟨q.1, PC.mv q.2⟩, va_recv hK hP (ci := 2) (q0 := 5) rfl rfl, fun U hU hW => ⟨rfl, PC.of hU hW hPc hK hDc hN⟩⟩ rfl rfl hl.1 rfl (lv_room (Nat.le_of_ble_eq_true rfl)) dX5_chance_61 ⟨Nat.zero_le _, Nat.zero_le _⟩) hS (fun q _ h => hFc q h) hFc (fun r_61 u t H1 locs ht hvm hw hB hz1 hk1 hS => ?_)
            obtain ⟨hP1, hD1⟩ := hB
            try dsimp only at hw
            rw [hw]
            rw [ht] at hP1
            have hP : va_P (dC, dI) vwCl [(p_this, .inr (5, [.ref p_text, .ref p_reader, .ref p_told, .ref p_draft, .ref p_now, .ref p_imageZero, .ref p_imageOne, .ref p_slots, .ref p_placesOf, .int d_keptImages, .long d_traced])), (p_now, .inr (0, [.ref p_now_mounts, .ref p_now_lendings, .ref p_now_log, .ref p_now_undos])), (p_now_mounts, .inr (2, [.int d_now_mounts_most, .ref p_now_mounts_cells, .int d_now_mounts_many])), (p_now_mounts_cells, .inl (cI, 48, .inl d_now_mounts_cells)), (p_told, .inr (4, [.ref p_told_dishes, .ref p_told_speakers, .ref p_told_noises, .ref p_told_askers])), (p_told_askers, .inr (2, [.int d_told_askers_most, .ref p_told_askers_cells, .int d_told_askers_many])), (p_told_askers_cells, .inl (cI, 48, .inl d_told_askers_cells))] H1 := join_ro hP hD [5, 6] rfl hk1 hP1
            clear hPc hDc hFc hk1 hz1 hP1 hD1 ht hvm
            generalize H1 = H at hP hS ⊢
            have hPc : va_P (dC, dI) vwCl [] H := hP.sub [] rfl
            have hDc : va_D A [] := hD.sub [] (by decide) rfl
            have hFc := va_free (wc := []) hD hS hA [] rfl
            refine va_calli (va_runS (As := [.int q20, .int (f_X2_number d_told_askers_many d_told_askers_cells x7_34 0)]) (rest := []) ⟨hx, hb, hml, hown, hts⟩ (c_X5_hasBit l dC dI cI cZ H.size q20 (f_X2_number d_told_askers_many d_told_askers_cells x7_34 0) (f_X5_hasBit q20 (f_X2_number d_told_askers_many d_told_askers_cells x7_34 0)) rfl) (va_cwS 2 hts gX5_chance_X5_hasBit rfl rfl rfl (by decide +kernel) ⟨Nat.le_of_ble_eq_true rfl, Nat.le_of_ble_eq_true rfl⟩) ⟨fun a U g mk q => ⟨q.1, PC.mv q.2⟩, fun U hU hW => ⟨rfl, PC.of hU hW hPc hK hDc hN⟩⟩ rfl rfl hl.1 rfl (lv_room (Nat.le_of_ble_eq_true rfl)) dX5_chance_64 ⟨Nat.zero_le _, Nat.zero_le _⟩) hS (fun q _ h => hFc q h) hFc (fun r_64 u t H1 locs ht hvm hw hB hz1 hk1 hS => ?_)
            obtain ⟨hP1, hD1⟩ := hB
            try dsimp only at hw
            rw [hw]
            rw [ht] at hP1
            have hP : va_P (dC, dI) vwCl [(p_this, .inr (5, [.ref p_text, .ref p_reader, .ref p_told, .ref p_draft, .ref p_now, .ref p_imageZero, .ref p_imageOne, .ref p_slots, .ref p_placesOf, .int d_keptImages, .long d_traced])), (p_now, .inr (0, [.ref p_now_mounts, .ref p_now_lendings, .ref p_now_log, .ref p_now_undos])), (p_now_mounts, .inr (2, [.int d_now_mounts_most, .ref p_now_mounts_cells, .int d_now_mounts_many])), (p_now_mounts_cells, .inl (cI, 48, .inl d_now_mounts_cells)), (p_told, .inr (4, [.ref p_told_dishes, .ref p_told_speakers, .ref p_told_noises, .ref p_told_askers])), (p_told_askers, .inr (2, [.int d_told_askers_most, .ref p_told_askers_cells, .int d_told_askers_many])), (p_told_askers_cells, .inl (cI, 48, .inl d_told_askers_cells))] H1 := join_ro hP hD [] rfl hk1 hP1
            clear hPc hDc hFc hk1 hz1 hP1 hD1 ht hvm
            generalize H1 = H at hP hS ⊢
            have J98 : ∀ (x5_98 : Int32) (x6_98 : Int32) (H : Heap) (locs : List Loc), va_P (dC, dI) vwCl [(p_this, .inr (5, [.ref p_text, .ref p_reader, .ref p_told, .ref p_draft, .ref p_now, .ref p_imageZero, .ref p_imageOne, .ref p_slots, .ref p_placesOf, .int d_keptImages, .long d_traced])), (p_now, .inr (0, [.ref p_now_mounts, .ref p_now_lendings, .ref p_now_log, .ref p_now_undos])), (p_now_mounts, .inr (2, [.int d_now_mounts_most, .ref p_now_mounts_cells, .int d_now_mounts_many])), (p_now_mounts_cells, .inl (cI, 48, .inl d_now_mounts_cells)), (p_told, .inr (4, [.ref p_told_dishes, .ref p_told_speakers, .ref p_told_noises, .ref p_told_askers])), (p_told_askers, .inr (2, [.int d_told_askers_most, .ref p_told_askers_cells, .int d_told_askers_many])), (p_told_askers_cells, .inl (cI, 48, .inl d_told_askers_cells))] H → va_D A [(p_this, .inr (5, [.ref p_text, .ref p_reader, .ref p_told, .ref p_draft, .ref p_now, .ref p_imageZero, .ref p_imageOne, .ref p_slots, .ref p_placesOf, .int d_keptImages, .long d_traced])), (p_now, .inr (0, [.ref p_now_mounts, .ref p_now_lendings, .ref p_now_log, .ref p_now_undos])), (p_now_mounts, .inr (2, [.int d_now_mounts_most, .ref p_now_mounts_cells, .int d_now_mounts_many])), (p_now_mounts_cells, .inl (cI, 48, .inl d_now_mounts_cells)), (p_told, .inr (4, [.ref p_told_dishes, .ref p_told_speakers, .ref p_told_noises, .ref p_told_askers])), (p_told_askers, .inr (2, [.int d_told_askers_most, .ref p_told_askers_cells, .int d_told_askers_many])), (p_told_askers_cells, .inl (cI, 48, .inl d_told_askers_cells))] → va_S A s.heap H locs → ∀ ls : Array Slot, lv_has ls 8 [(0, .ref p_this), (3, .int x3), (4, .int q20), (5, .int x5_98), (6, .int x6_98), (7, .int x7_34)] → f_X5_chance_J98 (f_X5_chance_L34 (f_X5_chance_X104 x3) x3 q20 d_told_askers_many d_told_askers_cells n9_34) x3 q20 x7_34 d_told_askers_many d_told_askers_cells x5_98 x6_98 = some out → W p l e ({ frames := 5, cells := 0, slots := 0, locals := 115 } : Room) s m ([.ref p_this, .int x1, .int x2, .int x3] : List Value).toArray below meth c H locs 0 0 Q (F0 m 98 ls []) := by
              intro x5_98 x6_98 H locs hP hD hS ls hl hrun
              rw [f_X5_chance_J98] at hrun
              refine lv_iinc (v := x7_34 + 1) (lv' := [(7, .int (x7_34 + 1)), (0, .ref p_this), (3, .int x3), (4, .int q20), (5, .int x5_98), (6, .int x6_98)]) hx hb dX5_chance_98 hl (k := 5) rfl rfl (by decide) rfl (fun ls hl => ?_)
              refine lv_goto (tgt := 34) hx hb dX5_chance_101 (by decide) ?_
              exact ih34 x5_98 x6_98 (x7_34 + 1) H locs hP hD hS ls (lv_sub hl [1, 2, 3, 4, 5, 0] rfl) hrun
            refine lv_if_eq (tgt := 98) hx hb dX5_chance_67 (by decide) (fun c_67 => ?_) (fun c_67 => ?_)
            · rw [if_pos c_67] at hrun
              exact J98 x5_34 x6_34 H locs hP hD hS ls hl hrun
            · rw [if_neg c_67] at hrun
              refine lv_iload hx hb dX5_chance_70 (lv_at hl 3 rfl) ?_
              refine lv_bipush (v := 10) hx hb dX5_chance_72 (by decide) ?_
              refine lv_imul hx hb dX5_chance_74 ?_
              refine lv_istore (lv' := [(5, .int (x5_34 * 10)), (0, .ref p_this), (3, .int x3), (4, .int q20), (6, .int x6_34), (7, .int x7_34)]) hx hb dX5_chance_75 hl (by decide) rfl (fun ls hl => ?_)
              refine lv_iload hx hb dX5_chance_77 (lv_at hl 4 rfl) ?_
              refine lv_bipush (v := 10) hx hb dX5_chance_79 (by decide) ?_
              refine lv_aload_n hx hb dX5_chance_81 rfl (lv_at hl 1 rfl) ?_
              refine va_get (D := (dC, dI)) (ci := 5) (v := .ref p_told) (C := RX5) (T := TX5) (N := 11) hx hb hts iwX5 hown hK hP 0 rfl rfl 2 (by decide) (hts (.fieldLink RX5 26 "SkyListeners" "told" "LSkyListeners$Valley;") (by decide +kernel)) (fun _ h9 => h9) rfl dX5_chance_82 ?_
              refine va_get (D := (dC, dI)) (ci := 4) (v := .ref p_told_askers) (C := RX4) (T := TX4) (N := 4) hx hb hts iwX4 hown hK hP 4 rfl rfl 3 (by decide) (hts (.fieldLink RX5 106 "SkyListeners$Valley" "askers" "LSkyListeners$Rows;") (by decide +kernel)) (fun _ h9 => h9) rfl dX5_chance_85 ?_
              refine lv_iload hx hb dX5_chance_88 (lv_at hl 5 rfl) ?_
              refine lv_iconst (v := 1) hx hb dX5_chance_90 (by decide) ?_
              have hPc : va_P (dC, dI) vwCl [(p_told_askers, .inr (2, [.int d_told_askers_most, .ref p_told_askers_cells, .int d_told_askers_many])), (p_told_askers_cells, .inl (cI, 48, .inl d_told_askers_cells))] H := hP.sub [5, 6] rfl
              have hDc : va_D A [(p_told_askers, .inr (2, [.int d_told_askers_most, .ref p_told_askers_cells, .int d_told_askers_many])), (p_told_askers_cells, .inl (cI, 48, .inl d_told_askers_cells))] := hD.sub [5, 6] (by decide) rfl
              have hFc := va_free (wc := [(p_told_askers, .inr (2, [.int d_told_askers_most, .ref p_told_askers_cells, .int d_told_askers_many])), (p_told_askers_cells, .inl (cI, 48, .inl d_told_askers_cells))]) hD hS hA [5, 6] rfl
              refine va_calli (va_runV (As := [.int x7_34, .int 1]) (rest := [.int 10, .int x6_34]) ⟨hx, hb, hml, hown, hts⟩ (c_X2_number l dC dI cI cZ H.size p_told_askers_cells p_told_askers d_told_askers_most d_told_askers_many d_told_askers_cells x7_34 1 (f_X2_number d_told_askers_many d_told_askers_cells x7_34 1) rfl) (cwV 2 hts gX5_chance_X2_number rfl rfl rfl (by decide +kernel) ⟨Nat.le_of_ble_eq_true rfl, Nat.le_of_ble_eq_true rfl⟩) ⟨fun a U g mk q => ⟨q.1, PC.mv q.2⟩, va_recv hK hP (ci := 2) (q0 := 5) rfl rfl, fun U hU hW => ⟨rfl, PC.of hU hW hPc hK hDc hN⟩⟩ rfl rfl hl.1 rfl (lv_room (Nat.le_of_ble_eq_true rfl)) dX5_chance_91 ⟨Nat.zero_le _, Nat.zero_le _⟩) hS (fun q _ h => hFc q h) hFc (fun r_91 u t H1 locs ht hvm hw hB hz1 hk1 hS => ?_)
              obtain ⟨hP1, hD1⟩ := hB
              try dsimp only at hw
              rw [hw]
              rw [ht] at hP1
              have hP : va_P (dC, dI) vwCl [(p_this, .inr (5, [.ref p_text, .ref p_reader, .ref p_told, .ref p_draft, .ref p_now, .ref p_imageZero, .ref p_imageOne, .ref p_slots, .ref p_placesOf, .int d_keptImages, .long d_traced])), (p_now, .inr (0, [.ref p_now_mounts, .ref p_now_lendings, .ref p_now_log, .ref p_now_undos])), (p_now_mounts, .inr (2, [.int d_now_mounts_most, .ref p_now_mounts_cells, .int d_now_mounts_many])), (p_now_mounts_cells, .inl (cI, 48, .inl d_now_mounts_cells)), (p_told, .inr (4, [.ref p_told_dishes, .ref p_told_speakers, .ref p_told_noises, .ref p_told_askers])), (p_told_askers, .inr (2, [.int d_told_askers_most, .ref p_told_askers_cells, .int d_told_askers_many])), (p_told_askers_cells, .inl (cI, 48, .inl d_told_askers_cells))] H1 := join_ro hP hD [5, 6] rfl hk1 hP1
              clear hPc hDc hFc hk1 hz1 hP1 hD1 ht hvm
              generalize H1 = H at hP hS ⊢
              refine lv_isub hx hb dX5_chance_94 ?_
              refine lv_imul hx hb dX5_chance_95 ?_
              refine lv_istore (lv' := [(6, .int (x6_34 * (10 - (f_X2_number d_told_askers_many d_told_askers_cells x7_34 1)))), (5, .int (x5_34 * 10)), (0, .ref p_this), (3, .int x3), (4, .int q20), (7, .int x7_34)]) hx hb dX5_chance_96 hl (by decide) rfl (fun ls hl => ?_)
              exact J98 (x5_34 * 10) (x6_34 * (10 - (f_X2_number d_told_askers_many d_told_askers_cells x7_34 1))) H locs hP hD hS ls (lv_sub hl [2, 3, 4, 1, 0, 5] rfl) hrun
      exact L34 FU 1 1 0 H locs hP hD hS ls (lv_sub hl [4, 7, 3, 2, 1, 0] rfl) hrun
    · rw [if_pos c_12] at hrun
      refine lv_iconst (v := (-1)) hx hb dX5_chance_15 (by decide) ?_
      have hrun := Option.some.inj hrun
      subst hrun
      rw [hQ]
      exact W.iret (v := (-1)) hx hb hr (fun t ht hW => ⟨⟨(-1), (), rfl, rfl, by rw [ht]; exact hP, hD⟩, hS.F ht⟩) hS.2.2 dX5_chance_16
-- SkyListeners.tellsApart
def f_X5_tellsApart_X43 (x2 : Int32) : Option (Int32) := (if (f_J6_bitCount_0f7a4 x2) < 7 then (some 0) else (some 1))
def f_X5_tellsApart_J37 (K4 : Int32 → Int32 → Option (Int32)) (x1 : Int32) (x3 : Int32) (d_now_mounts_many : Int32) (d_placesOf : Nat → Int32) (x2 : Int32) : Option (Int32) := (K4 x2 (x3 + 1))
def f_X5_tellsApart_L4 (K43 : Int32 → Option (Int32)) (x1 : Int32) (d_now_mounts_many : Int32) (d_placesOf : Nat → Int32) : Nat → Int32 → Int32 → Option (Int32)
  | 0, _, _ => none
  | n9 + 1, x2, x3 => (if d_now_mounts_many ≤ x3 then (K43 x2) else (if (f_X5_hasBit x1 x3) = 0 then (f_X5_tellsApart_J37 (f_X5_tellsApart_L4 K43 x1 d_now_mounts_many d_placesOf n9) x1 x3 d_now_mounts_many d_placesOf x2) else (f_X5_tellsApart_J37 (f_X5_tellsApart_L4 K43 x1 d_now_mounts_many d_placesOf n9) x1 x3 d_now_mounts_many d_placesOf (x2 ||| (f_X5_at 5 d_placesOf x3)))))
def f_X5_tellsApart (d_now_mounts_many : Int32) (d_placesOf : Nat → Int32) (x1 : Int32) : Option (Int32) := (f_X5_tellsApart_L4 f_X5_tellsApart_X43 x1 d_now_mounts_many d_placesOf FU 0 0)
set_option maxHeartbeats 4000000 in
set_option maxRecDepth 100000 in
theorem c_X5_tellsApart (l : Launch) (dC : Nat → ClassId) (dI : Nat → Nat → Nat) (cI cZ : ClassId) (sz : Nat) (p_draft p_imageOne p_imageZero p_now p_now_lendings p_now_log p_now_mounts p_now_mounts_cells p_now_undos p_placesOf p_reader p_slots p_text p_this p_told : Nat) (d_keptImages : Int32) (d_traced : Int64) (d_now_mounts_most : Int32) (d_now_mounts_many : Int32) (d_placesOf : Nat → Int32) (x1 : Int32) (out : Int32) (hrun : f_X5_tellsApart d_now_mounts_many d_placesOf x1 = some out) : Met l yX5_tellsApart wsX5_tellsApart ({ frames := 1, cells := 0, slots := 0, locals := 21 } : Room) (va_Pc [.ref p_this, .int x1] (PC dC dI cI cZ sz ([(p_this, .inr (5, [.ref p_text, .ref p_reader, .ref p_told, .ref p_draft, .ref p_now, .ref p_imageZero, .ref p_imageOne, .ref p_slots, .ref p_placesOf, .int d_keptImages, .long d_traced])), (p_now, .inr (0, [.ref p_now_mounts, .ref p_now_lendings, .ref p_now_log, .ref p_now_undos])), (p_now_mounts, .inr (2, [.int d_now_mounts_most, .ref p_now_mounts_cells, .int d_now_mounts_many])), (p_placesOf, .inl (cI, 5, .inl d_placesOf))] : va_W))) (va_Qi (fun r (_ : Unit) => r = out) (fun _ t => va_P (dC, dI) vwCl [(p_this, .inr (5, [.ref p_text, .ref p_reader, .ref p_told, .ref p_draft, .ref p_now, .ref p_imageZero, .ref p_imageOne, .ref p_slots, .ref p_placesOf, .int d_keptImages, .long d_traced])), (p_now, .inr (0, [.ref p_now_mounts, .ref p_now_lendings, .ref p_now_log, .ref p_now_undos])), (p_now_mounts, .inr (2, [.int d_now_mounts_most, .ref p_now_mounts_cells, .int d_now_mounts_many])), (p_placesOf, .inl (cI, 5, .inl d_placesOf))] t.heap ∧ va_D (va_A ([(p_this, .inr (5, [.ref p_text, .ref p_reader, .ref p_told, .ref p_draft, .ref p_now, .ref p_imageZero, .ref p_imageOne, .ref p_slots, .ref p_placesOf, .int d_keptImages, .long d_traced])), (p_now, .inr (0, [.ref p_now_mounts, .ref p_now_lendings, .ref p_now_log, .ref p_now_undos])), (p_now_mounts, .inr (2, [.int d_now_mounts_most, .ref p_now_mounts_cells, .int d_now_mounts_many])), (p_placesOf, .inl (cI, 5, .inl d_placesOf))] : va_W) sz) [(p_this, .inr (5, [.ref p_text, .ref p_reader, .ref p_told, .ref p_draft, .ref p_now, .ref p_imageZero, .ref p_imageOne, .ref p_slots, .ref p_placesOf, .int d_keptImages, .long d_traced])), (p_now, .inr (0, [.ref p_now_mounts, .ref p_now_lendings, .ref p_now_log, .ref p_now_undos])), (p_now_mounts, .inr (2, [.int d_now_mounts_most, .ref p_now_mounts_cells, .int d_now_mounts_many])), (p_placesOf, .inl (cI, 5, .inl d_placesOf))]) (va_A ([(p_this, .inr (5, [.ref p_text, .ref p_reader, .ref p_told, .ref p_draft, .ref p_now, .ref p_imageZero, .ref p_imageOne, .ref p_slots, .ref p_placesOf, .int d_keptImages, .long d_traced])), (p_now, .inr (0, [.ref p_now_mounts, .ref p_now_lendings, .ref p_now_log, .ref p_now_undos])), (p_now_mounts, .inr (2, [.int d_now_mounts_most, .ref p_now_mounts_cells, .int d_now_mounts_many])), (p_placesOf, .inl (cI, 5, .inl d_placesOf))] : va_W) sz)) 0 0 (va_A ([(p_this, .inr (5, [.ref p_text, .ref p_reader, .ref p_told, .ref p_draft, .ref p_now, .ref p_imageZero, .ref p_imageOne, .ref p_slots, .ref p_placesOf, .int d_keptImages, .long d_traced])), (p_now, .inr (0, [.ref p_now_mounts, .ref p_now_lendings, .ref p_now_log, .ref p_now_undos])), (p_now_mounts, .inr (2, [.int d_now_mounts_most, .ref p_now_mounts_cells, .int d_now_mounts_many])), (p_placesOf, .inl (cI, 5, .inl d_placesOf))] : va_W) sz) := by
  refine Met.ofW (cc := cX5_tellsApart) (maxL := 4) (ret := (some .boolean)) (by decide) rfl ?_
  intro p e s m args below meth c s₁ B hml hv
  obtain ⟨rfl, hsz, hP, hK, hD0, hN⟩ := hv
  have hx := B.exec
  have hb := B.bytes
  have hr := B.returns
  have hts := atoms_spec (ws := wsX5_tellsApart) B.pre
  have hown : s.vm.findClass RX5 = some m.cls := findClass_of_methodNamed B.named
  have hlocks := B.notSynchronized
  subst hsz
  have hD := hD0.self (sz := s.heap.size)
  generalize hAe : va_A ([(p_this, .inr (5, [.ref p_text, .ref p_reader, .ref p_told, .ref p_draft, .ref p_now, .ref p_imageZero, .ref p_imageOne, .ref p_slots, .ref p_placesOf, .int d_keptImages, .long d_traced])), (p_now, .inr (0, [.ref p_now_mounts, .ref p_now_lendings, .ref p_now_log, .ref p_now_undos])), (p_now_mounts, .inr (2, [.int d_now_mounts_most, .ref p_now_mounts_cells, .int d_now_mounts_many])), (p_placesOf, .inl (cI, 5, .inl d_placesOf))] : va_W) s.heap.size = A at hD ⊢
  have hA : ∀ q : Nat, s.heap.size ≤ q → A q := fun q h => by rw [← hAe]; exact Or.inr h
  have hS : va_S A s.heap s.heap [] := va_S.rf
  refine W_abs (fun Q hQ => ?_)
  have hl := lv_entry ([.ref p_this, .int x1]) (n := 4) (Nat.le_of_ble_eq_true rfl)
  rw [lg_entry_eq]
  generalize (lg_sl ([.ref p_this, .int x1]) ++ List.replicate (4 - (lg_sl ([.ref p_this, .int x1])).length) Slot.unset).toArray = ls at hl ⊢
  have hl : lv_has ls 4 [(0, .ref p_this), (1, .int x1)] := hl
  rw [f_X5_tellsApart] at hrun
  refine W_start (ws := [(p_this, .inr (5, [.ref p_text, .ref p_reader, .ref p_told, .ref p_draft, .ref p_now, .ref p_imageZero, .ref p_imageOne, .ref p_slots, .ref p_placesOf, .int d_keptImages, .long d_traced])), (p_now, .inr (0, [.ref p_now_mounts, .ref p_now_lendings, .ref p_now_log, .ref p_now_undos])), (p_now_mounts, .inr (2, [.int d_now_mounts_most, .ref p_now_mounts_cells, .int d_now_mounts_many])), (p_placesOf, .inl (cI, 5, .inl d_placesOf))]) hP hS (fun H locs hP hS => ?_)
  have iwX0 : ∀ w ∈ wsX00, w ∈ wsX5_tellsApart := by decide +kernel
  have iwX2 : ∀ w ∈ wsX20, w ∈ wsX5_tellsApart := by decide +kernel
  have iwX5 : ∀ w ∈ wsX50, w ∈ wsX5_tellsApart := by decide +kernel
  refine lv_iconst (v := 0) hx hb dX5_tellsApart_0 (by decide) ?_
  refine lv_istore_n (lv' := [(2, .int 0), (0, .ref p_this), (1, .int x1)]) hx hb dX5_tellsApart_1 rfl hl (by decide) rfl (fun ls hl => ?_)
  refine lv_iconst (v := 0) hx hb dX5_tellsApart_2 (by decide) ?_
  refine lv_istore_n (lv' := [(3, .int 0), (2, .int 0), (0, .ref p_this), (1, .int x1)]) hx hb dX5_tellsApart_3 rfl hl (by decide) rfl (fun ls hl => ?_)
  have X43 : ∀ (x2_43 : Int32) (H : Heap) (locs : List Loc), va_P (dC, dI) vwCl [(p_this, .inr (5, [.ref p_text, .ref p_reader, .ref p_told, .ref p_draft, .ref p_now, .ref p_imageZero, .ref p_imageOne, .ref p_slots, .ref p_placesOf, .int d_keptImages, .long d_traced])), (p_now, .inr (0, [.ref p_now_mounts, .ref p_now_lendings, .ref p_now_log, .ref p_now_undos])), (p_now_mounts, .inr (2, [.int d_now_mounts_most, .ref p_now_mounts_cells, .int d_now_mounts_many])), (p_placesOf, .inl (cI, 5, .inl d_placesOf))] H → va_D A [(p_this, .inr (5, [.ref p_text, .ref p_reader, .ref p_told, .ref p_draft, .ref p_now, .ref p_imageZero, .ref p_imageOne, .ref p_slots, .ref p_placesOf, .int d_keptImages, .long d_traced])), (p_now, .inr (0, [.ref p_now_mounts, .ref p_now_lendings, .ref p_now_log, .ref p_now_undos])), (p_now_mounts, .inr (2, [.int d_now_mounts_most, .ref p_now_mounts_cells, .int d_now_mounts_many])), (p_placesOf, .inl (cI, 5, .inl d_placesOf))] → va_S A s.heap H locs → ∀ ls : Array Slot, lv_has ls 4 [(2, .int x2_43)] → f_X5_tellsApart_X43 x2_43 = some out → W p l e ({ frames := 1, cells := 0, slots := 0, locals := 21 } : Room) s m ([.ref p_this, .int x1] : List Value).toArray below meth c H locs 0 0 Q (F0 m 43 ls []) := by
    intro x2_43 H locs hP hD hS ls hl hrun
    rw [f_X5_tellsApart_X43] at hrun
    refine lv_iload_n hx hb dX5_tellsApart_43 rfl (lv_at hl 0 rfl) ?_
    have hPc : va_P (dC, dI) vwCl [] H := hP.sub [] rfl
    have hDc : va_D A [] := hD.sub [] (by decide) rfl
    have hFc := va_free (wc := []) hD hS hA [] rfl
    refine va_calli (va_runS (As := [.int x2_43]) (rest := []) ⟨hx, hb, hml, hown, hts⟩ (c_J6_bitCount_0f7a4 l dC dI cI cZ H.size x2_43 (f_J6_bitCount_0f7a4 x2_43) rfl) (va_cwS 1 hts gX5_tellsApart_J6_bitCount_0f7a4 rfl rfl rfl (by decide +kernel) ⟨Nat.le_of_ble_eq_true rfl, Nat.le_of_ble_eq_true rfl⟩) ⟨fun a U g mk q => ⟨q.1, PC.mv q.2⟩, fun U hU hW => ⟨rfl, PC.of hU hW hPc hK hDc hN⟩⟩ rfl rfl hl.1 rfl (lv_room (Nat.le_of_ble_eq_true rfl)) dX5_tellsApart_44 ⟨Nat.zero_le _, Nat.zero_le _⟩) hS (fun q _ h => hFc q h) hFc (fun r_44 u t H1 locs ht hvm hw hB hz1 hk1 hS => ?_)
    obtain ⟨hP1, hD1⟩ := hB
    try dsimp only at hw
    rw [hw]
    rw [ht] at hP1
    have hP : va_P (dC, dI) vwCl [(p_this, .inr (5, [.ref p_text, .ref p_reader, .ref p_told, .ref p_draft, .ref p_now, .ref p_imageZero, .ref p_imageOne, .ref p_slots, .ref p_placesOf, .int d_keptImages, .long d_traced])), (p_now, .inr (0, [.ref p_now_mounts, .ref p_now_lendings, .ref p_now_log, .ref p_now_undos])), (p_now_mounts, .inr (2, [.int d_now_mounts_most, .ref p_now_mounts_cells, .int d_now_mounts_many])), (p_placesOf, .inl (cI, 5, .inl d_placesOf))] H1 := join_ro hP hD [] rfl hk1 hP1
    clear hPc hDc hFc hk1 hz1 hP1 hD1 ht hvm
    generalize H1 = H at hP hS ⊢
    refine lv_bipush (v := 7) hx hb dX5_tellsApart_47 (by decide) ?_
    refine lv_icmp_lt (tgt := 56) hx hb dX5_tellsApart_49 (by decide) (fun c_49 => ?_) (fun c_49 => ?_)
    · rw [if_pos c_49] at hrun
      refine lv_iconst (v := 0) hx hb dX5_tellsApart_56 (by decide) ?_
      have hrun := Option.some.inj hrun
      subst hrun
      rw [hQ]
      exact W.zret (v := 0) (ty := .boolean) hx hb hr rfl (fun t ht hW => ⟨⟨0, (), rfl, rfl, by rw [ht]; exact hP, hD⟩, hS.F ht⟩) hS.2.2 dX5_tellsApart_57
    · rw [if_neg c_49] at hrun
      refine lv_iconst (v := 1) hx hb dX5_tellsApart_52 (by decide) ?_
      refine lv_goto (tgt := 57) hx hb dX5_tellsApart_53 (by decide) ?_
      have hrun := Option.some.inj hrun
      subst hrun
      rw [hQ]
      exact W.zret (v := 1) (ty := .boolean) hx hb hr rfl (fun t ht hW => ⟨⟨1, (), rfl, rfl, by rw [ht]; exact hP, hD⟩, hS.F ht⟩) hS.2.2 dX5_tellsApart_57
  have L4 : ∀ (n9_4 : Nat) (x2_4 : Int32) (x3_4 : Int32) (H : Heap) (locs : List Loc), va_P (dC, dI) vwCl [(p_this, .inr (5, [.ref p_text, .ref p_reader, .ref p_told, .ref p_draft, .ref p_now, .ref p_imageZero, .ref p_imageOne, .ref p_slots, .ref p_placesOf, .int d_keptImages, .long d_traced])), (p_now, .inr (0, [.ref p_now_mounts, .ref p_now_lendings, .ref p_now_log, .ref p_now_undos])), (p_now_mounts, .inr (2, [.int d_now_mounts_most, .ref p_now_mounts_cells, .int d_now_mounts_many])), (p_placesOf, .inl (cI, 5, .inl d_placesOf))] H → va_D A [(p_this, .inr (5, [.ref p_text, .ref p_reader, .ref p_told, .ref p_draft, .ref p_now, .ref p_imageZero, .ref p_imageOne, .ref p_slots, .ref p_placesOf, .int d_keptImages, .long d_traced])), (p_now, .inr (0, [.ref p_now_mounts, .ref p_now_lendings, .ref p_now_log, .ref p_now_undos])), (p_now_mounts, .inr (2, [.int d_now_mounts_most, .ref p_now_mounts_cells, .int d_now_mounts_many])), (p_placesOf, .inl (cI, 5, .inl d_placesOf))] → va_S A s.heap H locs → ∀ ls : Array Slot, lv_has ls 4 [(0, .ref p_this), (1, .int x1), (2, .int x2_4), (3, .int x3_4)] → f_X5_tellsApart_L4 f_X5_tellsApart_X43 x1 d_now_mounts_many d_placesOf n9_4 x2_4 x3_4 = some out → W p l e ({ frames := 1, cells := 0, slots := 0, locals := 21 } : Room) s m ([.ref p_this, .int x1] : List Value).toArray below meth c H locs 0 0 Q (F0 m 4 ls []) := by
    intro n9_4
    induction n9_4 with
    | zero =>
      intro x2_4 x3_4 H locs hP hD hS ls hl hrun
      rw [f_X5_tellsApart_L4] at hrun
      cases hrun
    | succ n9_4 ih4 =>
      intro x2_4 x3_4 H locs hP hD hS ls hl hrun
      rw [f_X5_tellsApart_L4] at hrun
      refine lv_iload_n hx hb dX5_tellsApart_4 rfl (lv_at hl 3 rfl) ?_
      refine lv_aload_n hx hb dX5_tellsApart_5 rfl (lv_at hl 0 rfl) ?_
      refine va_get (D := (dC, dI)) (ci := 5) (v := .ref p_now) (C := RX5) (T := TX5) (N := 11) hx hb hts iwX5 hown hK hP 0 rfl rfl 4 (by decide) (hts (.fieldLink RX5 36 "SkyListeners" "now" "LSkyListeners$Now;") (by decide +kernel)) (fun _ h9 => h9) rfl dX5_tellsApart_6 ?_
      refine va_get (D := (dC, dI)) (ci := 0) (v := .ref p_now_mounts) (C := RX0) (T := TX0) (N := 4) hx hb hts iwX0 hown hK hP 1 rfl rfl 0 (by decide) (hts (.fieldLink RX5 115 "SkyListeners$Now" "mounts" "LSkyListeners$Rows;") (by decide +kernel)) (fun _ h9 => h9) rfl dX5_tellsApart_9 ?_
      refine va_get (D := (dC, dI)) (ci := 2) (v := .int d_now_mounts_many) (C := RX2) (T := TX2) (N := 3) hx hb hts iwX2 hown hK hP 2 rfl rfl 2 (by decide) (hts (.fieldLink RX5 136 "SkyListeners$Rows" "many" "I") (by decide +kernel)) (fun _ h9 => h9) rfl dX5_tellsApart_12 ?_
      refine lv_icmp_ge (tgt := 43) hx hb dX5_tellsApart_15 (by decide) (fun c_15 => ?_) (fun c_15 => ?_)
      · rw [if_pos c_15] at hrun
        exact X43 x2_4 H locs hP hD hS ls (lv_sub hl [2] rfl) hrun
      · rw [if_neg c_15] at hrun
        refine lv_iload_n hx hb dX5_tellsApart_18 rfl (lv_at hl 1 rfl) ?_
        refine lv_iload_n hx hb dX5_tellsApart_19 rfl (lv_at hl 3 rfl) ?_
        have hPc : va_P (dC, dI) vwCl [] H := hP.sub [] rfl
        have hDc : va_D A [] := hD.sub [] (by decide) rfl
        have hFc := va_free (wc := []) hD hS hA [] rfl
        refine va_calli (va_runS (As := [.int x1, .int x3_4]) (rest := []) ⟨hx, hb, hml, hown, hts⟩ (c_X5_hasBit l dC dI cI cZ H.size x1 x3_4 (f_X5_hasBit x1 x3_4) rfl) (va_cwS 2 hts gX5_tellsApart_X5_hasBit rfl rfl rfl (by decide +kernel) ⟨Nat.le_of_ble_eq_true rfl, Nat.le_of_ble_eq_true rfl⟩) ⟨fun a U g mk q => ⟨q.1, PC.mv q.2⟩, fun U hU hW => ⟨rfl, PC.of hU hW hPc hK hDc hN⟩⟩ rfl rfl hl.1 rfl (lv_room (Nat.le_of_ble_eq_true rfl)) dX5_tellsApart_20 ⟨Nat.zero_le _, Nat.zero_le _⟩) hS (fun q _ h => hFc q h) hFc (fun r_20 u t H1 locs ht hvm hw hB hz1 hk1 hS => ?_)
        obtain ⟨hP1, hD1⟩ := hB
        try dsimp only at hw
        rw [hw]
        rw [ht] at hP1
        have hP : va_P (dC, dI) vwCl [(p_this, .inr (5, [.ref p_text, .ref p_reader, .ref p_told, .ref p_draft, .ref p_now, .ref p_imageZero, .ref p_imageOne, .ref p_slots, .ref p_placesOf, .int d_keptImages, .long d_traced])), (p_now, .inr (0, [.ref p_now_mounts, .ref p_now_lendings, .ref p_now_log, .ref p_now_undos])), (p_now_mounts, .inr (2, [.int d_now_mounts_most, .ref p_now_mounts_cells, .int d_now_mounts_many])), (p_placesOf, .inl (cI, 5, .inl d_placesOf))] H1 := join_ro hP hD [] rfl hk1 hP1
        clear hPc hDc hFc hk1 hz1 hP1 hD1 ht hvm
        generalize H1 = H at hP hS ⊢
        have J37 : ∀ (x2_37 : Int32) (H : Heap) (locs : List Loc), va_P (dC, dI) vwCl [(p_this, .inr (5, [.ref p_text, .ref p_reader, .ref p_told, .ref p_draft, .ref p_now, .ref p_imageZero, .ref p_imageOne, .ref p_slots, .ref p_placesOf, .int d_keptImages, .long d_traced])), (p_now, .inr (0, [.ref p_now_mounts, .ref p_now_lendings, .ref p_now_log, .ref p_now_undos])), (p_now_mounts, .inr (2, [.int d_now_mounts_most, .ref p_now_mounts_cells, .int d_now_mounts_many])), (p_placesOf, .inl (cI, 5, .inl d_placesOf))] H → va_D A [(p_this, .inr (5, [.ref p_text, .ref p_reader, .ref p_told, .ref p_draft, .ref p_now, .ref p_imageZero, .ref p_imageOne, .ref p_slots, .ref p_placesOf, .int d_keptImages, .long d_traced])), (p_now, .inr (0, [.ref p_now_mounts, .ref p_now_lendings, .ref p_now_log, .ref p_now_undos])), (p_now_mounts, .inr (2, [.int d_now_mounts_most, .ref p_now_mounts_cells, .int d_now_mounts_many])), (p_placesOf, .inl (cI, 5, .inl d_placesOf))] → va_S A s.heap H locs → ∀ ls : Array Slot, lv_has ls 4 [(0, .ref p_this), (1, .int x1), (2, .int x2_37), (3, .int x3_4)] → f_X5_tellsApart_J37 (f_X5_tellsApart_L4 f_X5_tellsApart_X43 x1 d_now_mounts_many d_placesOf n9_4) x1 x3_4 d_now_mounts_many d_placesOf x2_37 = some out → W p l e ({ frames := 1, cells := 0, slots := 0, locals := 21 } : Room) s m ([.ref p_this, .int x1] : List Value).toArray below meth c H locs 0 0 Q (F0 m 37 ls []) := by
          intro x2_37 H locs hP hD hS ls hl hrun
          rw [f_X5_tellsApart_J37] at hrun
          refine lv_iinc (v := x3_4 + 1) (lv' := [(3, .int (x3_4 + 1)), (0, .ref p_this), (1, .int x1), (2, .int x2_37)]) hx hb dX5_tellsApart_37 hl (k := 3) rfl rfl (by decide) rfl (fun ls hl => ?_)
          refine lv_goto (tgt := 4) hx hb dX5_tellsApart_40 (by decide) ?_
          exact ih4 x2_37 (x3_4 + 1) H locs hP hD hS ls (lv_sub hl [1, 2, 3, 0] rfl) hrun
        refine lv_if_eq (tgt := 37) hx hb dX5_tellsApart_23 (by decide) (fun c_23 => ?_) (fun c_23 => ?_)
        · rw [if_pos c_23] at hrun
          exact J37 x2_4 H locs hP hD hS ls hl hrun
        · rw [if_neg c_23] at hrun
          refine lv_iload_n hx hb dX5_tellsApart_26 rfl (lv_at hl 2 rfl) ?_
          refine lv_aload_n hx hb dX5_tellsApart_27 rfl (lv_at hl 0 rfl) ?_
          refine va_get (D := (dC, dI)) (ci := 5) (v := .ref p_placesOf) (C := RX5) (T := TX5) (N := 11) hx hb hts iwX5 hown hK hP 0 rfl rfl 8 (by decide) (hts (.fieldLink RX5 50 "SkyListeners" "placesOf" "[I") (by decide +kernel)) (fun _ h9 => h9) rfl dX5_tellsApart_28 ?_
          refine lv_iload_n hx hb dX5_tellsApart_31 rfl (lv_at hl 3 rfl) ?_
          have hPc : va_P (dC, dI) vwCl [(p_placesOf, .inl (cI, 5, .inl d_placesOf))] H := hP.sub [3] rfl
          have hDc : va_D A [(p_placesOf, .inl (cI, 5, .inl d_placesOf))] := hD.sub [3] (by decide) rfl
          have hFc := va_free (wc := [(p_placesOf, .inl (cI, 5, .inl d_placesOf))]) hD hS hA [3] rfl
          refine va_calli (va_runS (As := [.ref p_placesOf, .int x3_4]) (rest := [.int x2_4]) ⟨hx, hb, hml, hown, hts⟩ (c_X5_at l dC dI cI cZ H.size p_placesOf 5 d_placesOf x3_4 (by decide) (f_X5_at 5 d_placesOf x3_4) rfl) (va_cwS 2 hts gX5_tellsApart_X5_at rfl rfl rfl (by decide +kernel) ⟨Nat.le_of_ble_eq_true rfl, Nat.le_of_ble_eq_true rfl⟩) ⟨fun a U g mk q => ⟨q.1, PC.mv q.2⟩, fun U hU hW => ⟨rfl, PC.of hU hW hPc hK hDc hN⟩⟩ rfl rfl hl.1 rfl (lv_room (Nat.le_of_ble_eq_true rfl)) dX5_tellsApart_32 ⟨Nat.zero_le _, Nat.zero_le _⟩) hS (fun q _ h => hFc q h) hFc (fun r_32 u t H1 locs ht hvm hw hB hz1 hk1 hS => ?_)
          obtain ⟨hP1, hD1⟩ := hB
          try dsimp only at hw
          rw [hw]
          rw [ht] at hP1
          have hP : va_P (dC, dI) vwCl [(p_this, .inr (5, [.ref p_text, .ref p_reader, .ref p_told, .ref p_draft, .ref p_now, .ref p_imageZero, .ref p_imageOne, .ref p_slots, .ref p_placesOf, .int d_keptImages, .long d_traced])), (p_now, .inr (0, [.ref p_now_mounts, .ref p_now_lendings, .ref p_now_log, .ref p_now_undos])), (p_now_mounts, .inr (2, [.int d_now_mounts_most, .ref p_now_mounts_cells, .int d_now_mounts_many])), (p_placesOf, .inl (cI, 5, .inl d_placesOf))] H1 := join_ro hP hD [3] rfl hk1 hP1
          clear hPc hDc hFc hk1 hz1 hP1 hD1 ht hvm
          generalize H1 = H at hP hS ⊢
          refine lv_ior hx hb dX5_tellsApart_35 ?_
          refine lv_istore_n (lv' := [(2, .int (x2_4 ||| (f_X5_at 5 d_placesOf x3_4))), (0, .ref p_this), (1, .int x1), (3, .int x3_4)]) hx hb dX5_tellsApart_36 rfl hl (by decide) rfl (fun ls hl => ?_)
          exact J37 (x2_4 ||| (f_X5_at 5 d_placesOf x3_4)) H locs hP hD hS ls (lv_sub hl [1, 2, 0, 3] rfl) hrun
  exact L4 FU 0 0 H locs hP hD hS ls (lv_sub hl [2, 3, 1, 0] rfl) hrun
