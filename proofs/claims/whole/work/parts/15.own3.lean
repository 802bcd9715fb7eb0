-- SkyListeners.fewestApart
def f_X5_fewestApart_J105 (K46 : Int32 → Int32 → Option (Int32 × (Nat → Int32))) (x4 : Int32) (d_now_mounts_many : Int32) (d_placesOf : Nat → Int32) (x3 : Int32) : Option (Int32 × (Nat → Int32)) := (K46 x3 (x4 + 1))
def f_X5_fewestApart_J86 (K46 : Int32 → Int32 → Option (Int32 × (Nat → Int32))) (x3 : Int32) (x4 : Int32) (d_now_mounts_many : Int32) (d_placesOf : Nat → Int32) (t0 : Int32) : Option (Int32 × (Nat → Int32)) := (if t0 = 0 then (f_X5_fewestApart_J105 K46 x4 d_now_mounts_many d_placesOf x3) else ((f_X5_tellsApart d_now_mounts_many d_placesOf x4).bind fun q96 => (if q96 = 0 then (f_X5_fewestApart_J105 K46 x4 d_now_mounts_many d_placesOf x3) else (f_X5_fewestApart_J105 K46 x4 d_now_mounts_many d_placesOf x4))))
def f_X5_fewestApart_L46 (d_now_mounts_many : Int32) (d_placesOf : Nat → Int32) : Nat → Int32 → Int32 → Option (Int32 × (Nat → Int32))
  | 0, _, _ => none
  | n9 + 1, x3, x4 => (if (1 <<< (d_now_mounts_many &&& 31)) ≤ x4 then (some (x3, d_placesOf)) else (if x3 = (-9) then (f_X5_fewestApart_J86 (f_X5_fewestApart_L46  d_now_mounts_many d_placesOf n9) x3 x4 d_now_mounts_many d_placesOf 1) else (if (f_J6_bitCount_0f7a4 x3) ≤ (f_J6_bitCount_0f7a4 x4) then (f_X5_fewestApart_J86 (f_X5_fewestApart_L46  d_now_mounts_many d_placesOf n9) x3 x4 d_now_mounts_many d_placesOf 0) else (f_X5_fewestApart_J86 (f_X5_fewestApart_L46  d_now_mounts_many d_placesOf n9) x3 x4 d_now_mounts_many d_placesOf 1))))
def f_X5_fewestApart_X40 (d_now_mounts_many : Int32) (d_placesOf : Nat → Int32) : Option (Int32 × (Nat → Int32)) := (f_X5_fewestApart_L46 d_now_mounts_many d_placesOf FU (-9) 0)
def f_X5_fewestApart_L2 (K40 : (Nat → Int32) → Option (Int32 × (Nat → Int32))) (x1 : Int32) (x2 : Int32) (d_now_mounts_many : Int32) (d_now_mounts_cells : Nat → Int32) : Nat → Int32 → (Nat → Int32) → Option (Int32 × (Nat → Int32))
  | 0, _, _ => none
  | n9 + 1, x3, d_placesOf => (if d_now_mounts_many ≤ x3 then (K40 d_placesOf) else ((f_X0_placesSeen d_now_mounts_many d_now_mounts_cells x3 x1 x2).bind fun q28 => (f_X5_fewestApart_L2 K40 x1 x2 d_now_mounts_many d_now_mounts_cells n9 (x3 + 1) (f_X5_put 5 d_placesOf x3 q28))))
def f_X5_fewestApart (d_now_mounts_many : Int32) (d_now_mounts_cells : Nat → Int32) (d_placesOf : Nat → Int32) (x1 : Int32) (x2 : Int32) : Option (Int32 × (Nat → Int32)) := (f_X5_fewestApart_L2 (f_X5_fewestApart_X40 d_now_mounts_many) x1 x2 d_now_mounts_many d_now_mounts_cells FU 0 d_placesOf)
set_option maxHeartbeats 4000000 in
set_option maxRecDepth 100000 in
theorem c_X5_fewestApart (l : Launch) (dC : Nat → ClassId) (dI : Nat → Nat → Nat) (cI cZ : ClassId) (sz : Nat) (p_draft p_imageOne p_imageZero p_now p_now_lendings p_now_log p_now_mounts p_now_mounts_cells p_now_undos p_placesOf p_reader p_slots p_text p_this p_told : Nat) (d_keptImages : Int32) (d_traced : Int64) (d_now_mounts_most : Int32) (d_now_mounts_many : Int32) (d_now_mounts_cells : Nat → Int32) (d_placesOf : Nat → Int32) (x1 : Int32) (x2 : Int32) (out : Int32 × (Nat → Int32)) (hrun : f_X5_fewestApart d_now_mounts_many d_now_mounts_cells d_placesOf x1 x2 = some out) : Met l yX5_fewestApart wsX5_fewestApart ({ frames := 4, cells := 0, slots := 0, locals := 91 } : Room) (va_Pc [.ref p_this, .int x1, .int x2] (PC dC dI cI cZ sz ([(p_this, .inr (5, [.ref p_text, .ref p_reader, .ref p_told, .ref p_draft, .ref p_now, .ref p_imageZero, .ref p_imageOne, .ref p_slots, .ref p_placesOf, .int d_keptImages, .long d_traced])), (p_now, .inr (0, [.ref p_now_mounts, .ref p_now_lendings, .ref p_now_log, .ref p_now_undos])), (p_now_mounts, .inr (2, [.int d_now_mounts_most, .ref p_now_mounts_cells, .int d_now_mounts_many])), (p_now_mounts_cells, .inl (cI, 48, .inl d_now_mounts_cells)), (p_placesOf, .inl (cI, 5, .inl d_placesOf))] : va_W))) (va_Qi (fun r (_ : Unit) => r = out.1) (fun _ t => va_P (dC, dI) vwCl [(p_this, .inr (5, [.ref p_text, .ref p_reader, .ref p_told, .ref p_draft, .ref p_now, .ref p_imageZero, .ref p_imageOne, .ref p_slots, .ref p_placesOf, .int d_keptImages, .long d_traced])), (p_now, .inr (0, [.ref p_now_mounts, .ref p_now_lendings, .ref p_now_log, .ref p_now_undos])), (p_now_mounts, .inr (2, [.int d_now_mounts_most, .ref p_now_mounts_cells, .int d_now_mounts_many])), (p_now_mounts_cells, .inl (cI, 48, .inl d_now_mounts_cells)), (p_placesOf, .inl (cI, 5, .inl out.2))] t.heap ∧ va_D (va_A ([(p_this, .inr (5, [.ref p_text, .ref p_reader, .ref p_told, .ref p_draft, .ref p_now, .ref p_imageZero, .ref p_imageOne, .ref p_slots, .ref p_placesOf, .int d_keptImages, .long d_traced])), (p_now, .inr (0, [.ref p_now_mounts, .ref p_now_lendings, .ref p_now_log, .ref p_now_undos])), (p_now_mounts, .inr (2, [.int d_now_mounts_most, .ref p_now_mounts_cells, .int d_now_mounts_many])), (p_now_mounts_cells, .inl (cI, 48, .inl d_now_mounts_cells)), (p_placesOf, .inl (cI, 5, .inl d_placesOf))] : va_W) sz) [(p_this, .inr (5, [.ref p_text, .ref p_reader, .ref p_told, .ref p_draft, .ref p_now, .ref p_imageZero, .ref p_imageOne, .ref p_slots, .ref p_placesOf, .int d_keptImages, .long d_traced])), (p_now, .inr (0, [.ref p_now_mounts, .ref p_now_lendings, .ref p_now_log, .ref p_now_undos])), (p_now_mounts, .inr (2, [.int d_now_mounts_most, .ref p_now_mounts_cells, .int d_now_mounts_many])), (p_now_mounts_cells, .inl (cI, 48, .inl d_now_mounts_cells)), (p_placesOf, .inl (cI, 5, .inl out.2))]) (va_A ([(p_this, .inr (5, [.ref p_text, .ref p_reader, .ref p_told, .ref p_draft, .ref p_now, .ref p_imageZero, .ref p_imageOne, .ref p_slots, .ref p_placesOf, .int d_keptImages, .long d_traced])), (p_now, .inr (0, [.ref p_now_mounts, .ref p_now_lendings, .ref p_now_log, .ref p_now_undos])), (p_now_mounts, .inr (2, [.int d_now_mounts_most, .ref p_now_mounts_cells, .int d_now_mounts_many])), (p_now_mounts_cells, .inl (cI, 48, .inl d_now_mounts_cells)), (p_placesOf, .inl (cI, 5, .inl d_placesOf))] : va_W) sz)) 0 0 (va_A ([(p_this, .inr (5, [.ref p_text, .ref p_reader, .ref p_told, .ref p_draft, .ref p_now, .ref p_imageZero, .ref p_imageOne, .ref p_slots, .ref p_placesOf, .int d_keptImages, .long d_traced])), (p_now, .inr (0, [.ref p_now_mounts, .ref p_now_lendings, .ref p_now_log, .ref p_now_undos])), (p_now_mounts, .inr (2, [.int d_now_mounts_most, .ref p_now_mounts_cells, .int d_now_mounts_many])), (p_now_mounts_cells, .inl (cI, 48, .inl d_now_mounts_cells)), (p_placesOf, .inl (cI, 5, .inl d_placesOf))] : va_W) sz) := by
  refine Met.ofW (cc := cX5_fewestApart) (maxL := 6) (ret := (some .int)) (by decide) rfl ?_
  intro p e s m args below meth c s₁ B hml hv
  obtain ⟨rfl, hsz, hP, hK, hD0, hN⟩ := hv
  have hx := B.exec
  have hb := B.bytes
  have hr := B.returns
  have hts := atoms_spec (ws := wsX5_fewestApart) B.pre
  have hown : s.vm.findClass RX5 = some m.cls := findClass_of_methodNamed B.named
  have hlocks := B.notSynchronized
  subst hsz
  have hD := hD0.self (sz := s.heap.size)
  generalize hAe : va_A ([(p_this, .inr (5, [.ref p_text, .ref p_reader, .ref p_told, .ref p_draft, .ref p_now, .ref p_imageZero, .ref p_imageOne, .ref p_slots, .ref p_placesOf, .int d_keptImages, .long d_traced])), (p_now, .inr (0, [.ref p_now_mounts, .ref p_now_lendings, .ref p_now_log, .ref p_now_undos])), (p_now_mounts, .inr (2, [.int d_now_mounts_most, .ref p_now_mounts_cells, .int d_now_mounts_many])), (p_now_mounts_cells, .inl (cI, 48, .inl d_now_mounts_cells)), (p_placesOf, .inl (cI, 5, .inl d_placesOf))] : va_W) s.heap.size = A at hD ⊢
  have hA : ∀ q : Nat, s.heap.size ≤ q → A q := fun q h => by rw [← hAe]; exact Or.inr h
  have hS : va_S A s.heap s.heap [] := va_S.rf
  refine W_abs (fun Q hQ => ?_)
  have hl := lv_entry ([.ref p_this, .int x1, .int x2]) (n := 6) (Nat.le_of_ble_eq_true rfl)
  rw [lg_entry_eq]
  generalize (lg_sl ([.ref p_this, .int x1, .int x2]) ++ List.replicate (6 - (lg_sl ([.ref p_this, .int x1, .int x2])).length) Slot.unset).toArray = ls at hl ⊢
  have hl : lv_has ls 6 [(0, .ref p_this), (1, .int x1), (2, .int x2)] := hl
  rw [f_X5_fewestApart] at hrun
  refine W_start (ws := [(p_this, .inr (5, [.ref p_text, .ref p_reader, .ref p_told, .ref p_draft, .ref p_now, .ref p_imageZero, .ref p_imageOne, .ref p_slots, .ref p_placesOf, .int d_keptImages, .long d_traced])), (p_now, .inr (0, [.ref p_now_mounts, .ref p_now_lendings, .ref p_now_log, .ref p_now_undos])), (p_now_mounts, .inr (2, [.int d_now_mounts_most, .ref p_now_mounts_cells, .int d_now_mounts_many])), (p_now_mounts_cells, .inl (cI, 48, .inl d_now_mounts_cells)), (p_placesOf, .inl (cI, 5, .inl d_placesOf))]) hP hS (fun H locs hP hS => ?_)
  have iwX0 : ∀ w ∈ wsX00, w ∈ wsX5_fewestApart := by decide +kernel
  have iwX2 : ∀ w ∈ wsX20, w ∈ wsX5_fewestApart := by decide +kernel
  have iwX5 : ∀ w ∈ wsX50, w ∈ wsX5_fewestApart := by decide +kernel
  refine lv_iconst (v := 0) hx hb dX5_fewestApart_0 (by decide) ?_
  refine lv_istore_n (lv' := [(3, .int 0), (0, .ref p_this), (1, .int x1), (2, .int x2)]) hx hb dX5_fewestApart_1 rfl hl (by decide) rfl (fun ls hl => ?_)
  have X40 : ∀ (d_placesOf_40 : Nat → Int32) (H : Heap) (locs : List Loc), va_P (dC, dI) vwCl [(p_this, .inr (5, [.ref p_text, .ref p_reader, .ref p_told, .ref p_draft, .ref p_now, .ref p_imageZero, .ref p_imageOne, .ref p_slots, .ref p_placesOf, .int d_keptImages, .long d_traced])), (p_now, .inr (0, [.ref p_now_mounts, .ref p_now_lendings, .ref p_now_log, .ref p_now_undos])), (p_now_mounts, .inr (2, [.int d_now_mounts_most, .ref p_now_mounts_cells, .int d_now_mounts_many])), (p_now_mounts_cells, .inl (cI, 48, .inl d_now_mounts_cells)), (p_placesOf, .inl (cI, 5, .inl d_placesOf_40))] H → va_D A [(p_this, .inr (5, [.ref p_text, .ref p_reader, .ref p_told, .ref p_draft, .ref p_now, .ref p_imageZero, .ref p_imageOne, .ref p_slots, .ref p_placesOf, .int d_keptImages, .long d_traced])), (p_now, .inr (0, [.ref p_now_mounts, .ref p_now_lendings, .ref p_now_log, .ref p_now_undos])), (p_now_mounts, .inr (2, [.int d_now_mounts_most, .ref p_now_mounts_cells, .int d_now_mounts_many])), (p_now_mounts_cells, .inl (cI, 48, .inl d_now_mounts_cells)), (p_placesOf, .inl (cI, 5, .inl d_placesOf_40))] → va_S A s.heap H locs → ∀ ls : Array Slot, lv_has ls 6 [(0, .ref p_this)] → f_X5_fewestApart_X40 d_now_mounts_many d_placesOf_40 = some out → W p l e ({ frames := 4, cells := 0, slots := 0, locals := 91 } : Room) s m ([.ref p_this, .int x1, .int x2] : List Value).toArray below meth c H locs 0 0 Q (F0 m 40 ls []) := by
    intro d_placesOf_40 H locs hP hD hS ls hl hrun
    rw [f_X5_fewestApart_X40] at hrun
    refine lv_bipush (v := (-9)) hx hb dX5_fewestApart_40 (by decide) ?_
    refine lv_istore_n (lv' := [(3, .int (-9)), (0, .ref p_this)]) hx hb dX5_fewestApart_42 rfl hl (by decide) rfl (fun ls hl => ?_)
    refine lv_iconst (v := 0) hx hb dX5_fewestApart_43 (by decide) ?_
    refine lv_istore (lv' := [(4, .int 0), (3, .int (-9)), (0, .ref p_this)]) hx hb dX5_fewestApart_44 hl (by decide) rfl (fun ls hl => ?_)
    have L46 : ∀ (n9_46 : Nat) (x3_46 : Int32) (x4_46 : Int32) (H : Heap) (locs : List Loc), va_P (dC, dI) vwCl [(p_this, .inr (5, [.ref p_text, .ref p_reader, .ref p_told, .ref p_draft, .ref p_now, .ref p_imageZero, .ref p_imageOne, .ref p_slots, .ref p_placesOf, .int d_keptImages, .long d_traced])), (p_now, .inr (0, [.ref p_now_mounts, .ref p_now_lendings, .ref p_now_log, .ref p_now_undos])), (p_now_mounts, .inr (2, [.int d_now_mounts_most, .ref p_now_mounts_cells, .int d_now_mounts_many])), (p_now_mounts_cells, .inl (cI, 48, .inl d_now_mounts_cells)), (p_placesOf, .inl (cI, 5, .inl d_placesOf_40))] H → va_D A [(p_this, .inr (5, [.ref p_text, .ref p_reader, .ref p_told, .ref p_draft, .ref p_now, .ref p_imageZero, .ref p_imageOne, .ref p_slots, .ref p_placesOf, .int d_keptImages, .long d_traced])), (p_now, .inr (0, [.ref p_now_mounts, .ref p_now_lendings, .ref p_now_log, .ref p_now_undos])), (p_now_mounts, .inr (2, [.int d_now_mounts_most, .ref p_now_mounts_cells, .int d_now_mounts_many])), (p_now_mounts_cells, .inl (cI, 48, .inl d_now_mounts_cells)), (p_placesOf, .inl (cI, 5, .inl d_placesOf_40))] → va_S A s.heap H locs → ∀ ls : Array Slot, lv_has ls 6 [(0, .ref p_this), (3, .int x3_46), (4, .int x4_46)] → f_X5_fewestApart_L46 d_now_mounts_many d_placesOf_40 n9_46 x3_46 x4_46 = some out → W p l e ({ frames := 4, cells := 0, slots := 0, locals := 91 } : Room) s m ([.ref p_this, .int x1, .int x2] : List Value).toArray below meth c H locs 0 0 Q (F0 m 46 ls []) := by
      intro n9_46
      induction n9_46 with
      | zero =>
        intro x3_46 x4_46 H locs hP hD hS ls hl hrun
        rw [f_X5_fewestApart_L46] at hrun
        cases hrun
      | succ n9_46 ih46 =>
        intro x3_46 x4_46 H locs hP hD hS ls hl hrun
        rw [f_X5_fewestApart_L46] at hrun
        refine lv_iload hx hb dX5_fewestApart_46 (lv_at hl 2 rfl) ?_
        refine lv_iconst (v := 1) hx hb dX5_fewestApart_48 (by decide) ?_
        refine lv_aload_n hx hb dX5_fewestApart_49 rfl (lv_at hl 0 rfl) ?_
        refine va_get (D := (dC, dI)) (ci := 5) (v := .ref p_now) (C := RX5) (T := TX5) (N := 11) hx hb hts iwX5 hown hK hP 0 rfl rfl 4 (by decide) (hts (.fieldLink RX5 36 "SkyListeners" "now" "LSkyListeners$Now;") (by decide +kernel)) (fun _ h9 => h9) rfl dX5_fewestApart_50 ?_
        refine va_get (D := (dC, dI)) (ci := 0) (v := .ref p_now_mounts) (C := RX0) (T := TX0) (N := 4) hx hb hts iwX0 hown hK hP 1 rfl rfl 0 (by decide) (hts (.fieldLink RX5 115 "SkyListeners$Now" "mounts" "LSkyListeners$Rows;") (by decide +kernel)) (fun _ h9 => h9) rfl dX5_fewestApart_53 ?_
        refine va_get (D := (dC, dI)) (ci := 2) (v := .int d_now_mounts_many) (C := RX2) (T := TX2) (N := 3) hx hb hts iwX2 hown hK hP 2 rfl rfl 2 (by decide) (hts (.fieldLink RX5 136 "SkyListeners$Rows" "many" "I") (by decide +kernel)) (fun _ h9 => h9) rfl dX5_fewestApart_56 ?_
        refine lv_ishl hx hb dX5_fewestApart_59 ?_
        refine lv_icmp_ge (tgt := 111) hx hb dX5_fewestApart_60 (by decide) (fun c_60 => ?_) (fun c_60 => ?_)
        · rw [if_pos c_60] at hrun
          refine lv_iload_n hx hb dX5_fewestApart_111 rfl (lv_at hl 1 rfl) ?_
          have hrun := Option.some.inj hrun
          subst hrun
          rw [hQ]
          exact W.iret (v := x3_46) hx hb hr (fun t ht hW => ⟨⟨x3_46, (), rfl, rfl, by rw [ht]; exact hP, hD⟩, hS.F ht⟩) hS.2.2 dX5_fewestApart_112
        · rw [if_neg c_60] at hrun
          refine lv_iload_n hx hb dX5_fewestApart_63 rfl (lv_at hl 1 rfl) ?_
          refine lv_bipush (v := (-9)) hx hb dX5_fewestApart_64 (by decide) ?_
          have J86 : ∀ (t0_86 : Int32) (H : Heap) (locs : List Loc), va_P (dC, dI) vwCl [(p_this, .inr (5, [.ref p_text, .ref p_reader, .ref p_told, .ref p_draft, .ref p_now, .ref p_imageZero, .ref p_imageOne, .ref p_slots, .ref p_placesOf, .int d_keptImages, .long d_traced])), (p_now, .inr (0, [.ref p_now_mounts, .ref p_now_lendings, .ref p_now_log, .ref p_now_undos])), (p_now_mounts, .inr (2, [.int d_now_mounts_most, .ref p_now_mounts_cells, .int d_now_mounts_many])), (p_now_mounts_cells, .inl (cI, 48, .inl d_now_mounts_cells)), (p_placesOf, .inl (cI, 5, .inl d_placesOf_40))] H → va_D A [(p_this, .inr (5, [.ref p_text, .ref p_reader, .ref p_told, .ref p_draft, .ref p_now, .ref p_imageZero, .ref p_imageOne, .ref p_slots, .ref p_placesOf, .int d_keptImages, .long d_traced])), (p_now, .inr (0, [.ref p_now_mounts, .ref p_now_lendings, .ref p_now_log, .ref p_now_undos])), (p_now_mounts, .inr (2, [.int d_now_mounts_most, .ref p_now_mounts_cells, .int d_now_mounts_many])), (p_now_mounts_cells, .inl (cI, 48, .inl d_now_mounts_cells)), (p_placesOf, .inl (cI, 5, .inl d_placesOf_40))] → va_S A s.heap H locs → ∀ ls : Array Slot, lv_has ls 6 [(0, .ref p_this), (3, .int x3_46), (4, .int x4_46)] → f_X5_fewestApart_J86 (f_X5_fewestApart_L46 d_now_mounts_many d_placesOf_40 n9_46) x3_46 x4_46 d_now_mounts_many d_placesOf_40 t0_86 = some out → W p l e ({ frames := 4, cells := 0, slots := 0, locals := 91 } : Room) s m ([.ref p_this, .int x1, .int x2] : List Value).toArray below meth c H locs 0 0 Q (F0 m 86 ls [.int t0_86]) := by
            intro t0_86 H locs hP hD hS ls hl hrun
            rw [f_X5_fewestApart_J86] at hrun
            refine lv_istore (lv' := [(5, .int t0_86), (0, .ref p_this), (3, .int x3_46), (4, .int x4_46)]) hx hb dX5_fewestApart_86 hl (by decide) rfl (fun ls hl => ?_)
            refine lv_iload hx hb dX5_fewestApart_88 (lv_at hl 0 rfl) ?_
            have J105 : ∀ (x3_105 : Int32) (H : Heap) (locs : List Loc), va_P (dC, dI) vwCl [(p_this, .inr (5, [.ref p_text, .ref p_reader, .ref p_told, .ref p_draft, .ref p_now, .ref p_imageZero, .ref p_imageOne, .ref p_slots, .ref p_placesOf, .int d_keptImages, .long d_traced])), (p_now, .inr (0, [.ref p_now_mounts, .ref p_now_lendings, .ref p_now_log, .ref p_now_undos])), (p_now_mounts, .inr (2, [.int d_now_mounts_most, .ref p_now_mounts_cells, .int d_now_mounts_many])), (p_now_mounts_cells, .inl (cI, 48, .inl d_now_mounts_cells)), (p_placesOf, .inl (cI, 5, .inl d_placesOf_40))] H → va_D A [(p_this, .inr (5, [.ref p_text, .ref p_reader, .ref p_told, .ref p_draft, .ref p_now, .ref p_imageZero, .ref p_imageOne, .ref p_slots, .ref p_placesOf, .int d_keptImages, .long d_traced])), (p_now, .inr (0, [.ref p_now_mounts, .ref p_now_lendings, .ref p_now_log, .ref p_now_undos])), (p_now_mounts, .inr (2, [.int d_now_mounts_most, .ref p_now_mounts_cells, .int d_now_mounts_many])), (p_now_mounts_cells, .inl (cI, 48, .inl d_now_mounts_cells)), (p_placesOf, .inl (cI, 5, .inl d_placesOf_40))] → va_S A s.heap H locs → ∀ ls : Array Slot, lv_has ls 6 [(0, .ref p_this), (3, .int x3_105), (4, .int x4_46)] → f_X5_fewestApart_J105 (f_X5_fewestApart_L46 d_now_mounts_many d_placesOf_40 n9_46) x4_46 d_now_mounts_many d_placesOf_40 x3_105 = some out → W p l e ({ frames := 4, cells := 0, slots := 0, locals := 91 } : Room) s m ([.ref p_this, .int x1, .int x2] : List Value).toArray below meth c H locs 0 0 Q (F0 m 105 ls []) := by
              intro x3_105 H locs hP hD hS ls hl hrun
              rw [f_X5_fewestApart_J105] at hrun
              refine lv_iinc (v := x4_46 + 1) (lv' := [(4, .int (x4_46 + 1)), (0, .ref p_this), (3, .int x3_105)]) hx hb dX5_fewestApart_105 hl (k := 2) rfl rfl (by decide) rfl (fun ls hl => ?_)
              refine lv_goto (tgt := 46) hx hb dX5_fewestApart_108 (by decide) ?_
              exact ih46 x3_105 (x4_46 + 1) H locs hP hD hS ls (lv_sub hl [1, 2, 0] rfl) hrun
            refine lv_if_eq (tgt := 105) hx hb dX5_fewestApart_90 (by decide) (fun c_90 => ?_) (fun c_90 => ?_)
            · rw [if_pos c_90] at hrun
              exact J105 x3_46 H locs hP hD hS ls (lv_sub hl [1, 2, 3] rfl) hrun
            · rw [if_neg c_90] at hrun
              refine lv_aload_n hx hb dX5_fewestApart_93 rfl (lv_at hl 1 rfl) ?_
              refine lv_iload hx hb dX5_fewestApart_94 (lv_at hl 3 rfl) ?_
              obtain ⟨q96, hq96, hrun⟩ := bind_out hrun
              have hPc : va_P (dC, dI) vwCl [(p_this, .inr (5, [.ref p_text, .ref p_reader, .ref p_told, .ref p_draft, .ref p_now, .ref p_imageZero, .ref p_imageOne, .ref p_slots, .ref p_placesOf, .int d_keptImages, .long d_traced])), (p_now, .inr (0, [.ref p_now_mounts, .ref p_now_lendings, .ref p_now_log, .ref p_now_undos])), (p_now_mounts, .inr (2, [.int d_now_mounts_most, .ref p_now_mounts_cells, .int d_now_mounts_many])), (p_placesOf, .inl (cI, 5, .inl d_placesOf_40))] H := hP.sub [0, 1, 2, 4] rfl
              have hDc : va_D A [(p_this, .inr (5, [.ref p_text, .ref p_reader, .ref p_told, .ref p_draft, .ref p_now, .ref p_imageZero, .ref p_imageOne, .ref p_slots, .ref p_placesOf, .int d_keptImages, .long d_traced])), (p_now, .inr (0, [.ref p_now_mounts, .ref p_now_lendings, .ref p_now_log, .ref p_now_undos])), (p_now_mounts, .inr (2, [.int d_now_mounts_most, .ref p_now_mounts_cells, .int d_now_mounts_many])), (p_placesOf, .inl (cI, 5, .inl d_placesOf_40))] := hD.sub [0, 1, 2, 4] (by decide) rfl
              have hFc := va_free (wc := [(p_this, .inr (5, [.ref p_text, .ref p_reader, .ref p_told, .ref p_draft, .ref p_now, .ref p_imageZero, .ref p_imageOne, .ref p_slots, .ref p_placesOf, .int d_keptImages, .long d_traced])), (p_now, .inr (0, [.ref p_now_mounts, .ref p_now_lendings, .ref p_now_log, .ref p_now_undos])), (p_now_mounts, .inr (2, [.int d_now_mounts_most, .ref p_now_mounts_cells, .int d_now_mounts_many])), (p_placesOf, .inl (cI, 5, .inl d_placesOf_40))]) hD hS hA [0, 1, 2, 4] rfl
              refine va_calli (va_runV (As := [.int x4_46]) (rest := []) ⟨hx, hb, hml, hown, hts⟩ (c_X5_tellsApart l dC dI cI cZ H.size p_draft p_imageOne p_imageZero p_now p_now_lendings p_now_log p_now_mounts p_now_mounts_cells p_now_undos p_placesOf p_reader p_slots p_text p_this p_told d_keptImages d_traced d_now_mounts_most d_now_mounts_many d_placesOf_40 x4_46 q96 hq96) (cwV 1 hts gX5_fewestApart_X5_tellsApart rfl rfl rfl (by decide +kernel) ⟨Nat.le_of_ble_eq_true rfl, Nat.le_of_ble_eq_true rfl⟩) ⟨fun a U g mk q => ⟨q.1, PC.mv q.2⟩, va_recv hK hP (ci := 5) (q0 := 0) rfl rfl, fun U hU hW => ⟨rfl, PC.of hU hW hPc hK hDc hN⟩⟩ rfl rfl hl.1 rfl (lv_room (Nat.le_of_ble_eq_true rfl)) dX5_fewestApart_96 ⟨Nat.zero_le _, Nat.zero_le _⟩) hS (fun q _ h => hFc q h) hFc (fun r_96 u t H1 locs ht hvm hw hB hz1 hk1 hS => ?_)
              obtain ⟨hP1, hD1⟩ := hB
              try dsimp only at hw
              rw [hw]
              rw [ht] at hP1
              have hP : va_P (dC, dI) vwCl [(p_this, .inr (5, [.ref p_text, .ref p_reader, .ref p_told, .ref p_draft, .ref p_now, .ref p_imageZero, .ref p_imageOne, .ref p_slots, .ref p_placesOf, .int d_keptImages, .long d_traced])), (p_now, .inr (0, [.ref p_now_mounts, .ref p_now_lendings, .ref p_now_log, .ref p_now_undos])), (p_now_mounts, .inr (2, [.int d_now_mounts_most, .ref p_now_mounts_cells, .int d_now_mounts_many])), (p_now_mounts_cells, .inl (cI, 48, .inl d_now_mounts_cells)), (p_placesOf, .inl (cI, 5, .inl d_placesOf_40))] H1 := join_ro hP hD [0, 1, 2, 4] rfl hk1 hP1
              clear hPc hDc hFc hk1 hz1 hP1 hD1 ht hvm
              generalize H1 = H at hP hS ⊢
              refine lv_if_eq (tgt := 105) hx hb dX5_fewestApart_99 (by decide) (fun c_99 => ?_) (fun c_99 => ?_)
              · rw [if_pos c_99] at hrun
                exact J105 x3_46 H locs hP hD hS ls (lv_sub hl [1, 2, 3] rfl) hrun
              · rw [if_neg c_99] at hrun
                refine lv_iload hx hb dX5_fewestApart_102 (lv_at hl 3 rfl) ?_
                refine lv_istore_n (lv' := [(3, .int x4_46), (5, .int t0_86), (0, .ref p_this), (4, .int x4_46)]) hx hb dX5_fewestApart_104 rfl hl (by decide) rfl (fun ls hl => ?_)
                exact J105 x4_46 H locs hP hD hS ls (lv_sub hl [2, 0, 3] rfl) hrun
          refine lv_icmp_eq (tgt := 81) hx hb dX5_fewestApart_66 (by decide) (fun c_66 => ?_) (fun c_66 => ?_)
          · rw [if_pos c_66] at hrun
            refine lv_iconst (v := 1) hx hb dX5_fewestApart_81 (by decide) ?_
            refine lv_goto (tgt := 86) hx hb dX5_fewestApart_82 (by decide) ?_
            exact J86 1 H locs hP hD hS ls hl hrun
          · rw [if_neg c_66] at hrun
            refine lv_iload hx hb dX5_fewestApart_69 (lv_at hl 2 rfl) ?_
            have hPc : va_P (dC, dI) vwCl [] H := hP.sub [] rfl
            have hDc : va_D A [] := hD.sub [] (by decide) rfl
            have hFc := va_free (wc := []) hD hS hA [] rfl
            refine va_calli (va_runS (As := [.int x4_46]) (rest := []) ⟨hx, hb, hml, hown, hts⟩ (c_J6_bitCount_0f7a4 l dC dI cI cZ H.size x4_46 (f_J6_bitCount_0f7a4 x4_46) rfl) (va_cwS 1 hts gX5_fewestApart_J6_bitCount_0f7a4 rfl rfl rfl (by decide +kernel) ⟨Nat.le_of_ble_eq_true rfl, Nat.le_of_ble_eq_true rfl⟩) ⟨fun a U g mk q => ⟨q.1, PC.mv q.2⟩, fun U hU hW => ⟨rfl, PC.of hU hW hPc hK hDc hN⟩⟩ rfl rfl hl.1 rfl (lv_room (Nat.le_of_ble_eq_true rfl)) dX5_fewestApart_71 ⟨Nat.zero_le _, Nat.zero_le _⟩) hS (fun q _ h => hFc q h) hFc (fun r_71 u t H1 locs ht hvm hw hB hz1 hk1 hS => ?_)
            obtain ⟨hP1, hD1⟩ := hB
            try dsimp only at hw
            rw [hw]
            rw [ht] at hP1
            have hP : va_P (dC, dI) vwCl [(p_this, .inr (5, [.ref p_text, .ref p_reader, .ref p_told, .ref p_draft, .ref p_now, .ref p_imageZero, .ref p_imageOne, .ref p_slots, .ref p_placesOf, .int d_keptImages, .long d_traced])), (p_now, .inr (0, [.ref p_now_mounts, .ref p_now_lendings, .ref p_now_log, .ref p_now_undos])), (p_now_mounts, .inr (2, [.int d_now_mounts_most, .ref p_now_mounts_cells, .int d_now_mounts_many])), (p_now_mounts_cells, .inl (cI, 48, .inl d_now_mounts_cells)), (p_placesOf, .inl (cI, 5, .inl d_placesOf_40))] H1 := join_ro hP hD [] rfl hk1 hP1
            clear hPc hDc hFc hk1 hz1 hP1 hD1 ht hvm
            generalize H1 = H at hP hS ⊢
            refine lv_iload_n hx hb dX5_fewestApart_74 rfl (lv_at hl 1 rfl) ?_
            have hPc : va_P (dC, dI) vwCl [] H := hP.sub [] rfl
            have hDc : va_D A [] := hD.sub [] (by decide) rfl
            have hFc := va_free (wc := []) hD hS hA [] rfl
            refine va_calli (va_runS (As := [.int x3_46]) (rest := [.int (f_J6_bitCount_0f7a4 x4_46)]) ⟨hx, hb, hml, hown, hts⟩ (c_J6_bitCount_0f7a4 l dC dI cI cZ H.size x3_46 (f_J6_bitCount_0f7a4 x3_46) rfl) (va_cwS 1 hts gX5_fewestApart_J6_bitCount_0f7a4 rfl rfl rfl (by decide +kernel) ⟨Nat.le_of_ble_eq_true rfl, Nat.le_of_ble_eq_true rfl⟩) ⟨fun a U g mk q => ⟨q.1, PC.mv q.2⟩, fun U hU hW => ⟨rfl, PC.of hU hW hPc hK hDc hN⟩⟩ rfl rfl hl.1 rfl (lv_room (Nat.le_of_ble_eq_true rfl)) dX5_fewestApart_75 ⟨Nat.zero_le _, Nat.zero_le _⟩) hS (fun q _ h => hFc q h) hFc (fun r_75 u t H1 locs ht hvm hw hB hz1 hk1 hS => ?_)
            obtain ⟨hP1, hD1⟩ := hB
            try dsimp only at hw
            rw [hw]
            rw [ht] at hP1
            have hP : va_P (dC, dI) vwCl [(p_this, .inr (5, [.ref p_text, .ref p_reader, .ref p_told, .ref p_draft, .ref p_now, .ref p_imageZero, .ref p_imageOne, .ref p_slots, .ref p_placesOf, .int d_keptImages, .long d_traced])), (p_now, .inr (0, [.ref p_now_mounts, .ref p_now_lendings, .ref p_now_log, .ref p_now_undos])), (p_now_mounts, .inr (2, [.int d_now_mounts_most, .ref p_now_mounts_cells, .int d_now_mounts_many])), (p_now_mounts_cells, .inl (cI, 48, .inl d_now_mounts_cells)), (p_placesOf, .inl (cI, 5, .inl d_placesOf_40))] H1 := join_ro hP hD [] rfl hk1 hP1
            clear hPc hDc hFc hk1 hz1 hP1 hD1 ht hvm
            generalize H1 = H at hP hS ⊢
            refine lv_icmp_ge (tgt := 85) hx hb dX5_fewestApart_78 (by decide) (fun c_78 => ?_) (fun c_78 => ?_)
            · rw [if_pos c_78] at hrun
              refine lv_iconst (v := 0) hx hb dX5_fewestApart_85 (by decide) ?_
              exact J86 0 H locs hP hD hS ls hl hrun
            · rw [if_neg c_78] at hrun
              refine lv_iconst (v := 1) hx hb dX5_fewestApart_81 (by decide) ?_
              refine lv_goto (tgt := 86) hx hb dX5_fewestApart_82 (by decide) ?_
              exact J86 1 H locs hP hD hS ls hl hrun
    exact L46 FU (-9) 0 H locs hP hD hS ls (lv_sub hl [2, 1, 0] rfl) hrun
  have L2 : ∀ (n9_2 : Nat) (x3_2 : Int32) (d_placesOf_2 : Nat → Int32) (H : Heap) (locs : List Loc), va_P (dC, dI) vwCl [(p_this, .inr (5, [.ref p_text, .ref p_reader, .ref p_told, .ref p_draft, .ref p_now, .ref p_imageZero, .ref p_imageOne, .ref p_slots, .ref p_placesOf, .int d_keptImages, .long d_traced])), (p_now, .inr (0, [.ref p_now_mounts, .ref p_now_lendings, .ref p_now_log, .ref p_now_undos])), (p_now_mounts, .inr (2, [.int d_now_mounts_most, .ref p_now_mounts_cells, .int d_now_mounts_many])), (p_now_mounts_cells, .inl (cI, 48, .inl d_now_mounts_cells)), (p_placesOf, .inl (cI, 5, .inl d_placesOf_2))] H → va_D A [(p_this, .inr (5, [.ref p_text, .ref p_reader, .ref p_told, .ref p_draft, .ref p_now, .ref p_imageZero, .ref p_imageOne, .ref p_slots, .ref p_placesOf, .int d_keptImages, .long d_traced])), (p_now, .inr (0, [.ref p_now_mounts, .ref p_now_lendings, .ref p_now_log, .ref p_now_undos])), (p_now_mounts, .inr (2, [.int d_now_mounts_most, .ref p_now_mounts_cells, .int d_now_mounts_many])), (p_now_mounts_cells, .inl (cI, 48, .inl d_now_mounts_cells)), (p_placesOf, .inl (cI, 5, .inl d_placesOf_2))] → va_S A s.heap H locs → ∀ ls : Array Slot, lv_has ls 6 [(0, .ref p_this), (1, .int x1), (2, .int x2), (3, .int x3_2)] → f_X5_fewestApart_L2 (f_X5_fewestApart_X40 d_now_mounts_many) x1 x2 d_now_mounts_many d_now_mounts_cells n9_2 x3_2 d_placesOf_2 = some out → W p l e ({ frames := 4, cells := 0, slots := 0, locals := 91 } : Room) s m ([.ref p_this, .int x1, .int x2] : List Value).toArray below meth c H locs 0 0 Q (F0 m 2 ls []) := by
    intro n9_2
    induction n9_2 with
    | zero =>
      intro x3_2 d_placesOf_2 H locs hP hD hS ls hl hrun
      rw [f_X5_fewestApart_L2] at hrun
      cases hrun
    | succ n9_2 ih2 =>
      intro x3_2 d_placesOf_2 H locs hP hD hS ls hl hrun
      rw [f_X5_fewestApart_L2] at hrun
      refine lv_iload_n hx hb dX5_fewestApart_2 rfl (lv_at hl 3 rfl) ?_
      refine lv_aload_n hx hb dX5_fewestApart_3 rfl (lv_at hl 0 rfl) ?_
      refine va_get (D := (dC, dI)) (ci := 5) (v := .ref p_now) (C := RX5) (T := TX5) (N := 11) hx hb hts iwX5 hown hK hP 0 rfl rfl 4 (by decide) (hts (.fieldLink RX5 36 "SkyListeners" "now" "LSkyListeners$Now;") (by decide +kernel)) (fun _ h9 => h9) rfl dX5_fewestApart_4 ?_
      refine va_get (D := (dC, dI)) (ci := 0) (v := .ref p_now_mounts) (C := RX0) (T := TX0) (N := 4) hx hb hts iwX0 hown hK hP 1 rfl rfl 0 (by decide) (hts (.fieldLink RX5 115 "SkyListeners$Now" "mounts" "LSkyListeners$Rows;") (by decide +kernel)) (fun _ h9 => h9) rfl dX5_fewestApart_7 ?_
      refine va_get (D := (dC, dI)) (ci := 2) (v := .int d_now_mounts_many) (C := RX2) (T := TX2) (N := 3) hx hb hts iwX2 hown hK hP 2 rfl rfl 2 (by decide) (hts (.fieldLink RX5 136 "SkyListeners$Rows" "many" "I") (by decide +kernel)) (fun _ h9 => h9) rfl dX5_fewestApart_10 ?_
      refine lv_icmp_ge (tgt := 40) hx hb dX5_fewestApart_13 (by decide) (fun c_13 => ?_) (fun c_13 => ?_)
      · rw [if_pos c_13] at hrun
        exact X40 d_placesOf_2 H locs hP hD hS ls (lv_sub hl [0] rfl) hrun
      · rw [if_neg c_13] at hrun
        refine lv_aload_n hx hb dX5_fewestApart_16 rfl (lv_at hl 0 rfl) ?_
        refine va_get (D := (dC, dI)) (ci := 5) (v := .ref p_placesOf) (C := RX5) (T := TX5) (N := 11) hx hb hts iwX5 hown hK hP 0 rfl rfl 8 (by decide) (hts (.fieldLink RX5 50 "SkyListeners" "placesOf" "[I") (by decide +kernel)) (fun _ h9 => h9) rfl dX5_fewestApart_17 ?_
        refine lv_iload_n hx hb dX5_fewestApart_20 rfl (lv_at hl 3 rfl) ?_
        refine lv_aload_n hx hb dX5_fewestApart_21 rfl (lv_at hl 0 rfl) ?_
        refine va_get (D := (dC, dI)) (ci := 5) (v := .ref p_now) (C := RX5) (T := TX5) (N := 11) hx hb hts iwX5 hown hK hP 0 rfl rfl 4 (by decide) (hts (.fieldLink RX5 36 "SkyListeners" "now" "LSkyListeners$Now;") (by decide +kernel)) (fun _ h9 => h9) rfl dX5_fewestApart_22 ?_
        refine lv_iload_n hx hb dX5_fewestApart_25 rfl (lv_at hl 3 rfl) ?_
        refine lv_iload_n hx hb dX5_fewestApart_26 rfl (lv_at hl 1 rfl) ?_
        refine lv_iload_n hx hb dX5_fewestApart_27 rfl (lv_at hl 2 rfl) ?_
        obtain ⟨q28, hq28, hrun⟩ := bind_out hrun
        have hPc : va_P (dC, dI) vwCl [(p_now, .inr (0, [.ref p_now_mounts, .ref p_now_lendings, .ref p_now_log, .ref p_now_undos])), (p_now_mounts, .inr (2, [.int d_now_mounts_most, .ref p_now_mounts_cells, .int d_now_mounts_many])), (p_now_mounts_cells, .inl (cI, 48, .inl d_now_mounts_cells))] H := hP.sub [1, 2, 3] rfl
        have hDc : va_D A [(p_now, .inr (0, [.ref p_now_mounts, .ref p_now_lendings, .ref p_now_log, .ref p_now_undos])), (p_now_mounts, .inr (2, [.int d_now_mounts_most, .ref p_now_mounts_cells, .int d_now_mounts_many])), (p_now_mounts_cells, .inl (cI, 48, .inl d_now_mounts_cells))] := hD.sub [1, 2, 3] (by decide) rfl
        have hFc := va_free (wc := [(p_now, .inr (0, [.ref p_now_mounts, .ref p_now_lendings, .ref p_now_log, .ref p_now_undos])), (p_now_mounts, .inr (2, [.int d_now_mounts_most, .ref p_now_mounts_cells, .int d_now_mounts_many])), (p_now_mounts_cells, .inl (cI, 48, .inl d_now_mounts_cells))]) hD hS hA [1, 2, 3] rfl
        refine va_calli (va_runV (As := [.int x3_2, .int x1, .int x2]) (rest := [.int x3_2, .ref p_placesOf]) ⟨hx, hb, hml, hown, hts⟩ (c_X0_placesSeen l dC dI cI cZ H.size p_now_lendings p_now_log p_now_mounts p_now_mounts_cells p_now p_now_undos d_now_mounts_most d_now_mounts_many d_now_mounts_cells x3_2 x1 x2 q28 hq28) (cwV 3 hts gX5_fewestApart_X0_placesSeen rfl rfl rfl (by decide +kernel) ⟨Nat.le_of_ble_eq_true rfl, Nat.le_of_ble_eq_true rfl⟩) ⟨fun a U g mk q => ⟨q.1, PC.mv q.2⟩, va_recv hK hP (ci := 0) (q0 := 1) rfl rfl, fun U hU hW => ⟨rfl, PC.of hU hW hPc hK hDc hN⟩⟩ rfl rfl hl.1 rfl (lv_room (Nat.le_of_ble_eq_true rfl)) dX5_fewestApart_28 ⟨Nat.zero_le _, Nat.zero_le _⟩) hS (fun q _ h => hFc q h) hFc (fun r_28 u t H1 locs ht hvm hw hB hz1 hk1 hS => ?_)
        obtain ⟨hP1, hD1⟩ := hB
        try dsimp only at hw
        rw [hw]
        rw [ht] at hP1
        have hP : va_P (dC, dI) vwCl [(p_this, .inr (5, [.ref p_text, .ref p_reader, .ref p_told, .ref p_draft, .ref p_now, .ref p_imageZero, .ref p_imageOne, .ref p_slots, .ref p_placesOf, .int d_keptImages, .long d_traced])), (p_now, .inr (0, [.ref p_now_mounts, .ref p_now_lendings, .ref p_now_log, .ref p_now_undos])), (p_now_mounts, .inr (2, [.int d_now_mounts_most, .ref p_now_mounts_cells, .int d_now_mounts_many])), (p_now_mounts_cells, .inl (cI, 48, .inl d_now_mounts_cells)), (p_placesOf, .inl (cI, 5, .inl d_placesOf_2))] H1 := join_ro hP hD [1, 2, 3] rfl hk1 hP1
        clear hPc hDc hFc hk1 hz1 hP1 hD1 ht hvm
        generalize H1 = H at hP hS ⊢
        have hPc : va_P (dC, dI) vwCl [(p_placesOf, .inl (cI, 5, .inl d_placesOf_2))] H := hP.sub [4] rfl
        have hDc : va_D A [(p_placesOf, .inl (cI, 5, .inl d_placesOf_2))] := hD.sub [4] (by decide) rfl
        have hFc := va_free (wc := [(p_placesOf, .inl (cI, 5, .inl d_placesOf_2))]) hD hS hA [4] rfl
        refine va_callv (va_runS (As := [.ref p_placesOf, .int x3_2, .int q28]) (rest := []) ⟨hx, hb, hml, hown, hts⟩ (c_X5_put l dC dI cI cZ H.size p_placesOf 5 d_placesOf_2 x3_2 q28 (by decide) (f_X5_put 5 d_placesOf_2 x3_2 q28) rfl) (va_cwS 3 hts gX5_fewestApart_X5_put rfl rfl rfl (by decide +kernel) ⟨Nat.le_of_ble_eq_true rfl, Nat.le_of_ble_eq_true rfl⟩) ⟨fun a U g mk q => ⟨q.1, PC.mv q.2⟩, fun U hU hW => ⟨rfl, PC.of hU hW hPc hK hDc hN⟩⟩ rfl rfl hl.1 rfl (lv_room (Nat.le_of_ble_eq_true rfl)) dX5_fewestApart_31 ⟨Nat.zero_le _, Nat.zero_le _⟩) hS (fun q _ h => hFc q h) hFc (fun u t H1 locs ht hvm hw hB hz1 hk1 hS => ?_)
        obtain ⟨hP1, hD1⟩ := hB
        rw [ht] at hP1
        obtain ⟨hP, hD⟩ := va_join (wr := [(p_this, .inr (5, [.ref p_text, .ref p_reader, .ref p_told, .ref p_draft, .ref p_now, .ref p_imageZero, .ref p_imageOne, .ref p_slots, .ref p_placesOf, .int d_keptImages, .long d_traced])), (p_now, .inr (0, [.ref p_now_mounts, .ref p_now_lendings, .ref p_now_log, .ref p_now_undos])), (p_now_mounts, .inr (2, [.int d_now_mounts_most, .ref p_now_mounts_cells, .int d_now_mounts_many])), (p_now_mounts_cells, .inl (cI, 48, .inl d_now_mounts_cells))]) (w1 := [(p_placesOf, .inl (cI, 5, .inl (f_X5_put 5 d_placesOf_2 x3_2 q28)))]) hP hD [4] [0, 1, 2, 3] rfl rfl (by decide) (by decide) hk1 hFc hP1 hD1
        have hP : va_P (dC, dI) vwCl [(p_this, .inr (5, [.ref p_text, .ref p_reader, .ref p_told, .ref p_draft, .ref p_now, .ref p_imageZero, .ref p_imageOne, .ref p_slots, .ref p_placesOf, .int d_keptImages, .long d_traced])), (p_now, .inr (0, [.ref p_now_mounts, .ref p_now_lendings, .ref p_now_log, .ref p_now_undos])), (p_now_mounts, .inr (2, [.int d_now_mounts_most, .ref p_now_mounts_cells, .int d_now_mounts_many])), (p_now_mounts_cells, .inl (cI, 48, .inl d_now_mounts_cells)), (p_placesOf, .inl (cI, 5, .inl (f_X5_put 5 d_placesOf_2 x3_2 q28)))] H1 := hP.sub [0, 1, 2, 3, 4] rfl
        have hD : va_D A [(p_this, .inr (5, [.ref p_text, .ref p_reader, .ref p_told, .ref p_draft, .ref p_now, .ref p_imageZero, .ref p_imageOne, .ref p_slots, .ref p_placesOf, .int d_keptImages, .long d_traced])), (p_now, .inr (0, [.ref p_now_mounts, .ref p_now_lendings, .ref p_now_log, .ref p_now_undos])), (p_now_mounts, .inr (2, [.int d_now_mounts_most, .ref p_now_mounts_cells, .int d_now_mounts_many])), (p_now_mounts_cells, .inl (cI, 48, .inl d_now_mounts_cells)), (p_placesOf, .inl (cI, 5, .inl (f_X5_put 5 d_placesOf_2 x3_2 q28)))] := hD.sub [0, 1, 2, 3, 4] (by decide) rfl
        clear hPc hDc hFc hk1 hz1 hP1 hD1 ht hvm
        generalize H1 = H at hP hS ⊢
        refine lv_iinc (v := x3_2 + 1) (lv' := [(3, .int (x3_2 + 1)), (0, .ref p_this), (1, .int x1), (2, .int x2)]) hx hb dX5_fewestApart_34 hl (k := 3) rfl rfl (by decide) rfl (fun ls hl => ?_)
        refine lv_goto (tgt := 2) hx hb dX5_fewestApart_37 (by decide) ?_
        exact ih2 (x3_2 + 1) (f_X5_put 5 d_placesOf_2 x3_2 q28) H locs hP hD hS ls (lv_sub hl [1, 2, 3, 0] rfl) hrun
  exact L2 FU 0 d_placesOf H locs hP hD hS ls (lv_sub hl [1, 2, 3, 0] rfl) hrun
-- SkyListeners.apart
def f_X5_apart (d_now_mounts_many : Int32) (d_now_mounts_cells : Nat → Int32) (d_placesOf : Nat → Int32) (x1 : Int32) (x2 : Int32) (x3 : Int32) : Option (Int32 × (Nat → Int32)) := (if (f_X5_areHours x1 x2) = 0 then (some ((-1), d_placesOf)) else (if (f_X5_isBit x3) = 0 then (some ((-1), d_placesOf)) else ((f_X5_fewestApart d_now_mounts_many d_now_mounts_cells d_placesOf x1 x2).bind fun q20 => (if q20.1 = (-9) then (some ((-9), q20.2)) else (if x3 = 0 then (some ((f_J6_bitCount_0f7a4 q20.1), q20.2)) else (some (q20.1, q20.2)))))))
set_option maxHeartbeats 4000000 in
set_option maxRecDepth 100000 in
theorem c_X5_apart (l : Launch) (dC : Nat → ClassId) (dI : Nat → Nat → Nat) (cI cZ : ClassId) (sz : Nat) (p_draft p_imageOne p_imageZero p_now p_now_lendings p_now_log p_now_mounts p_now_mounts_cells p_now_undos p_placesOf p_reader p_slots p_text p_this p_told : Nat) (d_keptImages : Int32) (d_traced : Int64) (d_now_mounts_most : Int32) (d_now_mounts_many : Int32) (d_now_mounts_cells : Nat → Int32) (d_placesOf : Nat → Int32) (x1 : Int32) (x2 : Int32) (x3 : Int32) (out : Int32 × (Nat → Int32)) (hrun : f_X5_apart d_now_mounts_many d_now_mounts_cells d_placesOf x1 x2 x3 = some out) : Met l yX5_apart wsX5_apart ({ frames := 5, cells := 0, slots := 0, locals := 116 } : Room) (va_Pc [.ref p_this, .int x1, .int x2, .int x3] (PC dC dI cI cZ sz ([(p_this, .inr (5, [.ref p_text, .ref p_reader, .ref p_told, .ref p_draft, .ref p_now, .ref p_imageZero, .ref p_imageOne, .ref p_slots, .ref p_placesOf, .int d_keptImages, .long d_traced])), (p_now, .inr (0, [.ref p_now_mounts, .ref p_now_lendings, .ref p_now_log, .ref p_now_undos])), (p_now_mounts, .inr (2, [.int d_now_mounts_most, .ref p_now_mounts_cells, .int d_now_mounts_many])), (p_now_mounts_cells, .inl (cI, 48, .inl d_now_mounts_cells)), (p_placesOf, .inl (cI, 5, .inl d_placesOf))] : va_W))) (va_Qi (fun r (_ : Unit) => r = out.1) (fun _ t => va_P (dC, dI) vwCl [(p_this, .inr (5, [.ref p_text, .ref p_reader, .ref p_told, .ref p_draft, .ref p_now, .ref p_imageZero, .ref p_imageOne, .ref p_slots, .ref p_placesOf, .int d_keptImages, .long d_traced])), (p_now, .inr (0, [.ref p_now_mounts, .ref p_now_lendings, .ref p_now_log, .ref p_now_undos])), (p_now_mounts, .inr (2, [.int d_now_mounts_most, .ref p_now_mounts_cells, .int d_now_mounts_many])), (p_now_mounts_cells, .inl (cI, 48, .inl d_now_mounts_cells)), (p_placesOf, .inl (cI, 5, .inl out.2))] t.heap ∧ va_D (va_A ([(p_this, .inr (5, [.ref p_text, .ref p_reader, .ref p_told, .ref p_draft, .ref p_now, .ref p_imageZero, .ref p_imageOne, .ref p_slots, .ref p_placesOf, .int d_keptImages, .long d_traced])), (p_now, .inr (0, [.ref p_now_mounts, .ref p_now_lendings, .ref p_now_log, .ref p_now_undos])), (p_now_mounts, .inr (2, [.int d_now_mounts_most, .ref p_now_mounts_cells, .int d_now_mounts_many])), (p_now_mounts_cells, .inl (cI, 48, .inl d_now_mounts_cells)), (p_placesOf, .inl (cI, 5, .inl d_placesOf))] : va_W) sz) [(p_this, .inr (5, [.ref p_text, .ref p_reader, .ref p_told, .ref p_draft, .ref p_now, .ref p_imageZero, .ref p_imageOne, .ref p_slots, .ref p_placesOf, .int d_keptImages, .long d_traced])), (p_now, .inr (0, [.ref p_now_mounts, .ref p_now_lendings, .ref p_now_log, .ref p_now_undos])), (p_now_mounts, .inr (2, [.int d_now_mounts_most, .ref p_now_mounts_cells, .int d_now_mounts_many])), (p_now_mounts_cells, .inl (cI, 48, .inl d_now_mounts_cells)), (p_placesOf, .inl (cI, 5, .inl out.2))]) (va_A ([(p_this, .inr (5, [.ref p_text, .ref p_reader, .ref p_told, .ref p_draft, .ref p_now, .ref p_imageZero, .ref p_imageOne, .ref p_slots, .ref p_placesOf, .int d_keptImages, .long d_traced])), (p_now, .inr (0, [.ref p_now_mounts, .ref p_now_lendings, .ref p_now_log, .ref p_now_undos])), (p_now_mounts, .inr (2, [.int d_now_mounts_most, .ref p_now_mounts_cells, .int d_now_mounts_many])), (p_now_mounts_cells, .inl (cI, 48, .inl d_now_mounts_cells)), (p_placesOf, .inl (cI, 5, .inl d_placesOf))] : va_W) sz)) 0 0 (va_A ([(p_this, .inr (5, [.ref p_text, .ref p_reader, .ref p_told, .ref p_draft, .ref p_now, .ref p_imageZero, .ref p_imageOne, .ref p_slots, .ref p_placesOf, .int d_keptImages, .long d_traced])), (p_now, .inr (0, [.ref p_now_mounts, .ref p_now_lendings, .ref p_now_log, .ref p_now_undos])), (p_now_mounts, .inr (2, [.int d_now_mounts_most, .ref p_now_mounts_cells, .int d_now_mounts_many])), (p_now_mounts_cells, .inl (cI, 48, .inl d_now_mounts_cells)), (p_placesOf, .inl (cI, 5, .inl d_placesOf))] : va_W) sz) := by
  refine Met.ofW (cc := cX5_apart) (maxL := 5) (ret := (some .int)) (by decide) rfl ?_
  intro p e s m args below meth c s₁ B hml hv
  obtain ⟨rfl, hsz, hP, hK, hD0, hN⟩ := hv
  have hx := B.exec
  have hb := B.bytes
  have hr := B.returns
  have hts := atoms_spec (ws := wsX5_apart) B.pre
  have hown : s.vm.findClass RX5 = some m.cls := findClass_of_methodNamed B.named
  have hlocks := B.notSynchronized
  subst hsz
  have hD := hD0.self (sz := s.heap.size)
  generalize hAe : va_A ([(p_this, .inr (5, [.ref p_text, .ref p_reader, .ref p_told, .ref p_draft, .ref p_now, .ref p_imageZero, .ref p_imageOne, .ref p_slots, .ref p_placesOf, .int d_keptImages, .long d_traced])), (p_now, .inr (0, [.ref p_now_mounts, .ref p_now_lendings, .ref p_now_log, .ref p_now_undos])), (p_now_mounts, .inr (2, [.int d_now_mounts_most, .ref p_now_mounts_cells, .int d_now_mounts_many])), (p_now_mounts_cells, .inl (cI, 48, .inl d_now_mounts_cells)), (p_placesOf, .inl (cI, 5, .inl d_placesOf))] : va_W) s.heap.size = A at hD ⊢
  have hA : ∀ q : Nat, s.heap.size ≤ q → A q := fun q h => by rw [← hAe]; exact Or.inr h
  have hS : va_S A s.heap s.heap [] := va_S.rf
  refine W_abs (fun Q hQ => ?_)
  have hl := lv_entry ([.ref p_this, .int x1, .int x2, .int x3]) (n := 5) (Nat.le_of_ble_eq_true rfl)
  rw [lg_entry_eq]
  generalize (lg_sl ([.ref p_this, .int x1, .int x2, .int x3]) ++ List.replicate (5 - (lg_sl ([.ref p_this, .int x1, .int x2, .int x3])).length) Slot.unset).toArray = ls at hl ⊢
  have hl : lv_has ls 5 [(0, .ref p_this), (1, .int x1), (2, .int x2), (3, .int x3)] := hl
  rw [f_X5_apart] at hrun
  refine W_start (ws := [(p_this, .inr (5, [.ref p_text, .ref p_reader, .ref p_told, .ref p_draft, .ref p_now, .ref p_imageZero, .ref p_imageOne, .ref p_slots, .ref p_placesOf, .int d_keptImages, .long d_traced])), (p_now, .inr (0, [.ref p_now_mounts, .ref p_now_lendings, .ref p_now_log, .ref p_now_undos])), (p_now_mounts, .inr (2, [.int d_now_mounts_most, .ref p_now_mounts_cells, .int d_now_mounts_many])), (p_now_mounts_cells, .inl (cI, 48, .inl d_now_mounts_cells)), (p_placesOf, .inl (cI, 5, .inl d_placesOf))]) hP hS (fun H locs hP hS => ?_)
  refine lv_iload_n hx hb dX5_apart_0 rfl (lv_at hl 1 rfl) ?_
  refine lv_iload_n hx hb dX5_apart_1 rfl (lv_at hl 2 rfl) ?_
  have hPc : va_P (dC, dI) vwCl [] H := hP.sub [] rfl
  have hDc : va_D A [] := hD.sub [] (by decide) rfl
  have hFc := va_free (wc := []) hD hS hA [] rfl
  refine va_calli (va_runS (As := [.int x1, .int x2]) (rest := []) ⟨hx, hb, hml, hown, hts⟩ (c_X5_areHours l dC dI cI cZ H.size x1 x2 (f_X5_areHours x1 x2) rfl) (va_cwS 2 hts gX5_apart_X5_areHours rfl rfl rfl (by decide +kernel) ⟨Nat.le_of_ble_eq_true rfl, Nat.le_of_ble_eq_true rfl⟩) ⟨fun a U g mk q => ⟨q.1, PC.mv q.2⟩, fun U hU hW => ⟨rfl, PC.of hU hW hPc hK hDc hN⟩⟩ rfl rfl hl.1 rfl (lv_room (Nat.le_of_ble_eq_true rfl)) dX5_apart_2 ⟨Nat.zero_le _, Nat.zero_le _⟩) hS (fun q _ h => hFc q h) hFc (fun r_2 u t H1 locs ht hvm hw hB hz1 hk1 hS => ?_)
  obtain ⟨hP1, hD1⟩ := hB
  try dsimp only at hw
  rw [hw]
  rw [ht] at hP1
  have hP : va_P (dC, dI) vwCl [(p_this, .inr (5, [.ref p_text, .ref p_reader, .ref p_told, .ref p_draft, .ref p_now, .ref p_imageZero, .ref p_imageOne, .ref p_slots, .ref p_placesOf, .int d_keptImages, .long d_traced])), (p_now, .inr (0, [.ref p_now_mounts, .ref p_now_lendings, .ref p_now_log, .ref p_now_undos])), (p_now_mounts, .inr (2, [.int d_now_mounts_most, .ref p_now_mounts_cells, .int d_now_mounts_many])), (p_now_mounts_cells, .inl (cI, 48, .inl d_now_mounts_cells)), (p_placesOf, .inl (cI, 5, .inl d_placesOf))] H1 := join_ro hP hD [] rfl hk1 hP1
  clear hPc hDc hFc hk1 hz1 hP1 hD1 ht hvm
  generalize H1 = H at hP hS ⊢
  refine lv_if_eq (tgt := 15) hx hb dX5_apart_5 (by decide) (fun c_5 => ?_) (fun c_5 => ?_)
  · rw [if_pos c_5] at hrun
    refine lv_iconst (v := (-1)) hx hb dX5_apart_15 (by decide) ?_
    have hrun := Option.some.inj hrun
    subst hrun
    rw [hQ]
    exact W.iret (v := (-1)) hx hb hr (fun t ht hW => ⟨⟨(-1), (), rfl, rfl, by rw [ht]; exact hP, hD⟩, hS.F ht⟩) hS.2.2 dX5_apart_16
  · rw [if_neg c_5] at hrun
    refine lv_iload_n hx hb dX5_apart_8 rfl (lv_at hl 3 rfl) ?_
    have hPc : va_P (dC, dI) vwCl [] H := hP.sub [] rfl
    have hDc : va_D A [] := hD.sub [] (by decide) rfl
    have hFc := va_free (wc := []) hD hS hA [] rfl
    refine va_calli (va_runS (As := [.int x3]) (rest := []) ⟨hx, hb, hml, hown, hts⟩ (c_X5_isBit l dC dI cI cZ H.size x3 (f_X5_isBit x3) rfl) (va_cwS 1 hts gX5_apart_X5_isBit rfl rfl rfl (by decide +kernel) ⟨Nat.le_of_ble_eq_true rfl, Nat.le_of_ble_eq_true rfl⟩) ⟨fun a U g mk q => ⟨q.1, PC.mv q.2⟩, fun U hU hW => ⟨rfl, PC.of hU hW hPc hK hDc hN⟩⟩ rfl rfl hl.1 rfl (lv_room (Nat.le_of_ble_eq_true rfl)) dX5_apart_9 ⟨Nat.zero_le _, Nat.zero_le _⟩) hS (fun q _ h => hFc q h) hFc (fun r_9 u t H1 locs ht hvm hw hB hz1 hk1 hS => ?_)
    obtain ⟨hP1, hD1⟩ := hB
    try dsimp only at hw
    rw [hw]
    rw [ht] at hP1
    have hP : va_P (dC, dI) vwCl [(p_this, .inr (5, [.ref p_text, .ref p_reader, .ref p_told, .ref p_draft, .ref p_now, .ref p_imageZero, .ref p_imageOne, .ref p_slots, .ref p_placesOf, .int d_keptImages, .long d_traced])), (p_now, .inr (0, [.ref p_now_mounts, .ref p_now_lendings, .ref p_now_log, .ref p_now_undos])), (p_now_mounts, .inr (2, [.int d_now_mounts_most, .ref p_now_mounts_cells, .int d_now_mounts_many])), (p_now_mounts_cells, .inl (cI, 48, .inl d_now_mounts_cells)), (p_placesOf, .inl (cI, 5, .inl d_placesOf))] H1 := join_ro hP hD [] rfl hk1 hP1
    clear hPc hDc hFc hk1 hz1 hP1 hD1 ht hvm
    generalize H1 = H at hP hS ⊢
    refine lv_if_ne (tgt := 17) hx hb dX5_apart_12 (by decide) (fun c_12 => ?_) (fun c_12 => ?_)
    · rw [if_neg c_12] at hrun
      refine lv_aload_n hx hb dX5_apart_17 rfl (lv_at hl 0 rfl) ?_
      refine lv_iload_n hx hb dX5_apart_18 rfl (lv_at hl 1 rfl) ?_
      refine lv_iload_n hx hb dX5_apart_19 rfl (lv_at hl 2 rfl) ?_
      obtain ⟨q20, hq20, hrun⟩ := bind_out hrun
      have hPc : va_P (dC, dI) vwCl [(p_this, .inr (5, [.ref p_text, .ref p_reader, .ref p_told, .ref p_draft, .ref p_now, .ref p_imageZero, .ref p_imageOne, .ref p_slots, .ref p_placesOf, .int d_keptImages, .long d_traced])), (p_now, .inr (0, [.ref p_now_mounts, .ref p_now_lendings, .ref p_now_log, .ref p_now_undos])), (p_now_mounts, .inr (2, [.int d_now_mounts_most, .ref p_now_mounts_cells, .int d_now_mounts_many])), (p_now_mounts_cells, .inl (cI, 48, .inl d_now_mounts_cells)), (p_placesOf, .inl (cI, 5, .inl d_placesOf))] H := hP.sub [0, 1, 2, 3, 4] rfl
      have hDc : va_D A [(p_this, .inr (5, [.ref p_text, .ref p_reader, .ref p_told, .ref p_draft, .ref p_now, .ref p_imageZero, .ref p_imageOne, .ref p_slots, .ref p_placesOf, .int d_keptImages, .long d_traced])), (p_now, .inr (0, [.ref p_now_mounts, .ref p_now_lendings, .ref p_now_log, .ref p_now_undos])), (p_now_mounts, .inr (2, [.int d_now_mounts_most, .ref p_now_mounts_cells, .int d_now_mounts_many])), (p_now_mounts_cells, .inl (cI, 48, .inl d_now_mounts_cells)), (p_placesOf, .inl (cI, 5, .inl d_placesOf))] := hD.sub [0, 1, 2, 3, 4] (by decide) rfl
      have hFc := va_free (wc := [(p_this, .inr (5, [.ref p_text, .ref p_reader, .ref p_told, .ref p_draft, .ref p_now, .ref p_imageZero, .ref p_imageOne, .ref p_slots, .ref p_placesOf, .int d_keptImages, .long d_traced])), (p_now, .inr (0, [.ref p_now_mounts, .ref p_now_lendings, .ref p_now_log, .ref p_now_undos])), (p_now_mounts, .inr (2, [.int d_now_mounts_most, .ref p_now_mounts_cells, .int d_now_mounts_many])), (p_now_mounts_cells, .inl (cI, 48, .inl d_now_mounts_cells)), (p_placesOf, .inl (cI, 5, .inl d_placesOf))]) hD hS hA [0, 1, 2, 3, 4] rfl
      refine va_calli (va_runV (As := [.int x1, .int x2]) (rest := []) ⟨hx, hb, hml, hown, hts⟩ (c_X5_fewestApart l dC dI cI cZ H.size p_draft p_imageOne p_imageZero p_now p_now_lendings p_now_log p_now_mounts p_now_mounts_cells p_now_undos p_placesOf p_reader p_slots p_text p_this p_told d_keptImages d_traced d_now_mounts_most d_now_mounts_many d_now_mounts_cells d_placesOf x1 x2 q20 hq20) (cwV 2 hts gX5_apart_X5_fewestApart rfl rfl rfl (by decide +kernel) ⟨Nat.le_of_ble_eq_true rfl, Nat.le_of_ble_eq_true rfl⟩) ⟨fun a U g mk q => ⟨q.1, PC.mv q.2⟩, va_recv hK hP (ci := 5) (q0 := 0) rfl rfl, fun U hU hW => ⟨rfl, PC.of hU hW hPc hK hDc hN⟩⟩ rfl rfl hl.1 rfl (lv_room (Nat.le_of_ble_eq_true rfl)) dX5_apart_20 ⟨Nat.zero_le _, Nat.zero_le _⟩) hS (fun q _ h => hFc q h) hFc (fun r_20 u t H1 locs ht hvm hw hB hz1 hk1 hS => ?_)
      obtain ⟨hP1, hD1⟩ := hB
      try dsimp only at hw
      rw [hw]
      rw [ht] at hP1
      obtain ⟨hP, hD⟩ := va_join (wr := []) (w1 := [(p_this, .inr (5, [.ref p_text, .ref p_reader, .ref p_told, .ref p_draft, .ref p_now, .ref p_imageZero, .ref p_imageOne, .ref p_slots, .ref p_placesOf, .int d_keptImages, .long d_traced])), (p_now, .inr (0, [.ref p_now_mounts, .ref p_now_lendings, .ref p_now_log, .ref p_now_undos])), (p_now_mounts, .inr (2, [.int d_now_mounts_most, .ref p_now_mounts_cells, .int d_now_mounts_many])), (p_now_mounts_cells, .inl (cI, 48, .inl d_now_mounts_cells)), (p_placesOf, .inl (cI, 5, .inl q20.2))]) hP hD [0, 1, 2, 3, 4] [] rfl rfl (by decide) (by decide) hk1 hFc hP1 hD1
      have hP : va_P (dC, dI) vwCl [(p_this, .inr (5, [.ref p_text, .ref p_reader, .ref p_told, .ref p_draft, .ref p_now, .ref p_imageZero, .ref p_imageOne, .ref p_slots, .ref p_placesOf, .int d_keptImages, .long d_traced])), (p_now, .inr (0, [.ref p_now_mounts, .ref p_now_lendings, .ref p_now_log, .ref p_now_undos])), (p_now_mounts, .inr (2, [.int d_now_mounts_most, .ref p_now_mounts_cells, .int d_now_mounts_many])), (p_now_mounts_cells, .inl (cI, 48, .inl d_now_mounts_cells)), (p_placesOf, .inl (cI, 5, .inl q20.2))] H1 := hP.sub [0, 1, 2, 3, 4] rfl
      have hD : va_D A [(p_this, .inr (5, [.ref p_text, .ref p_reader, .ref p_told, .ref p_draft, .ref p_now, .ref p_imageZero, .ref p_imageOne, .ref p_slots, .ref p_placesOf, .int d_keptImages, .long d_traced])), (p_now, .inr (0, [.ref p_now_mounts, .ref p_now_lendings, .ref p_now_log, .ref p_now_undos])), (p_now_mounts, .inr (2, [.int d_now_mounts_most, .ref p_now_mounts_cells, .int d_now_mounts_many])), (p_now_mounts_cells, .inl (cI, 48, .inl d_now_mounts_cells)), (p_placesOf, .inl (cI, 5, .inl q20.2))] := hD.sub [0, 1, 2, 3, 4] (by decide) rfl
      clear hPc hDc hFc hk1 hz1 hP1 hD1 ht hvm
      generalize H1 = H at hP hS ⊢
      refine lv_istore (lv' := [(4, .int q20.1), (0, .ref p_this), (1, .int x1), (2, .int x2), (3, .int x3)]) hx hb dX5_apart_23 hl (by decide) rfl (fun ls hl => ?_)
      refine lv_iload hx hb dX5_apart_25 (lv_at hl 0 rfl) ?_
      refine lv_bipush (v := (-9)) hx hb dX5_apart_27 (by decide) ?_
      refine lv_icmp_ne (tgt := 35) hx hb dX5_apart_29 (by decide) (fun c_29 => ?_) (fun c_29 => ?_)
      · rw [if_neg c_29] at hrun
        refine lv_iload_n hx hb dX5_apart_35 rfl (lv_at hl 4 rfl) ?_
        refine lv_if_ne (tgt := 47) hx hb dX5_apart_36 (by decide) (fun c_36 => ?_) (fun c_36 => ?_)
        · rw [if_neg c_36] at hrun
          refine lv_iload hx hb dX5_apart_47 (lv_at hl 0 rfl) ?_
          have hrun := Option.some.inj hrun
          subst hrun
          rw [hQ]
          exact W.iret (v := q20.1) hx hb hr (fun t ht hW => ⟨⟨q20.1, (), rfl, rfl, by rw [ht]; exact hP, hD⟩, hS.F ht⟩) hS.2.2 dX5_apart_49
        · rw [if_pos c_36] at hrun
          refine lv_iload hx hb dX5_apart_39 (lv_at hl 0 rfl) ?_
          have hPc : va_P (dC, dI) vwCl [] H := hP.sub [] rfl
          have hDc : va_D A [] := hD.sub [] (by decide) rfl
          have hFc := va_free (wc := []) hD hS hA [] rfl
          refine va_calli (va_runS (As := [.int q20.1]) (rest := []) ⟨hx, hb, hml, hown, hts⟩ (c_J6_bitCount_0f7a4 l dC dI cI cZ H.size q20.1 (f_J6_bitCount_0f7a4 q20.1) rfl) (va_cwS 1 hts gX5_apart_J6_bitCount_0f7a4 rfl rfl rfl (by decide +kernel) ⟨Nat.le_of_ble_eq_true rfl, Nat.le_of_ble_eq_true rfl⟩) ⟨fun a U g mk q => ⟨q.1, PC.mv q.2⟩, fun U hU hW => ⟨rfl, PC.of hU hW hPc hK hDc hN⟩⟩ rfl rfl hl.1 rfl (lv_room (Nat.le_of_ble_eq_true rfl)) dX5_apart_41 ⟨Nat.zero_le _, Nat.zero_le _⟩) hS (fun q _ h => hFc q h) hFc (fun r_41 u t H1 locs ht hvm hw hB hz1 hk1 hS => ?_)
          obtain ⟨hP1, hD1⟩ := hB
          try dsimp only at hw
          rw [hw]
          rw [ht] at hP1
          have hP : va_P (dC, dI) vwCl [(p_this, .inr (5, [.ref p_text, .ref p_reader, .ref p_told, .ref p_draft, .ref p_now, .ref p_imageZero, .ref p_imageOne, .ref p_slots, .ref p_placesOf, .int d_keptImages, .long d_traced])), (p_now, .inr (0, [.ref p_now_mounts, .ref p_now_lendings, .ref p_now_log, .ref p_now_undos])), (p_now_mounts, .inr (2, [.int d_now_mounts_most, .ref p_now_mounts_cells, .int d_now_mounts_many])), (p_now_mounts_cells, .inl (cI, 48, .inl d_now_mounts_cells)), (p_placesOf, .inl (cI, 5, .inl q20.2))] H1 := join_ro hP hD [] rfl hk1 hP1
          clear hPc hDc hFc hk1 hz1 hP1 hD1 ht hvm
          generalize H1 = H at hP hS ⊢
          refine lv_goto (tgt := 49) hx hb dX5_apart_44 (by decide) ?_
          have hrun := Option.some.inj hrun
          subst hrun
          rw [hQ]
          exact W.iret (v := (f_J6_bitCount_0f7a4 q20.1)) hx hb hr (fun t ht hW => ⟨⟨(f_J6_bitCount_0f7a4 q20.1), (), rfl, rfl, by rw [ht]; exact hP, hD⟩, hS.F ht⟩) hS.2.2 dX5_apart_49
      · rw [if_pos c_29] at hrun
        refine lv_bipush (v := (-9)) hx hb dX5_apart_32 (by decide) ?_
        have hrun := Option.some.inj hrun
        subst hrun
        rw [hQ]
        exact W.iret (v := (-9)) hx hb hr (fun t ht hW => ⟨⟨(-9), (), rfl, rfl, by rw [ht]; exact hP, hD⟩, hS.F ht⟩) hS.2.2 dX5_apart_34
    · rw [if_pos c_12] at hrun
      refine lv_iconst (v := (-1)) hx hb dX5_apart_15 (by decide) ?_
      have hrun := Option.some.inj hrun
      subst hrun
      rw [hQ]
      exact W.iret (v := (-1)) hx hb hr (fun t ht hW => ⟨⟨(-1), (), rfl, rfl, by rw [ht]; exact hP, hD⟩, hS.F ht⟩) hS.2.2 dX5_apart_16
-- SkyListeners.isNote
def f_X5_isNote (x0 : Int32) : Int32 := (if x0 < 0 then (0) else (if 10 ≤ x0 then (0) else (1)))
theorem b_X5_isNote (x0 : Int32) : f_X5_isNote x0 = 0 ∨ f_X5_isNote x0 = 1 := by unfold f_X5_isNote; first | (repeat' split) <;> first | exact Or.inl rfl | exact Or.inr rfl
set_option maxHeartbeats 4000000 in
set_option maxRecDepth 100000 in
theorem c_X5_isNote (l : Launch) (dC : Nat → ClassId) (dI : Nat → Nat → Nat) (cI cZ : ClassId) (sz : Nat) (x0 : Int32) (out : Int32) (hrun : f_X5_isNote x0 = out) : Met l yX5_isNote wsX5_isNote ({ frames := 0, cells := 0, slots := 0, locals := 0 } : Room) (va_Pc [.int x0] (PC dC dI cI cZ sz ([] : va_W))) (va_Qi (fun r (_ : Unit) => r = out) (fun _ t => va_P (dC, dI) vwCl [] t.heap ∧ va_D (va_A ([] : va_W) sz) []) (va_A ([] : va_W) sz)) 0 0 (va_A ([] : va_W) sz) := by
  refine Met.ofW (cc := cX5_isNote) (maxL := 1) (ret := (some .boolean)) (by decide) rfl ?_
  intro p e s m args below meth c s₁ B hml hv
  obtain ⟨rfl, hsz, hP, hK, hD0, hN⟩ := hv
  have hx := B.exec
  have hb := B.bytes
  have hr := B.returns
  have hts := atoms_spec (ws := wsX5_isNote) B.pre
  have hown : s.vm.findClass RX5 = some m.cls := findClass_of_methodNamed B.named
  have hlocks := B.notSynchronized
  subst hsz
  have hD := hD0.self (sz := s.heap.size)
  generalize hAe : va_A ([] : va_W) s.heap.size = A at hD ⊢
  have hA : ∀ q : Nat, s.heap.size ≤ q → A q := fun q h => by rw [← hAe]; exact Or.inr h
  have hS : va_S A s.heap s.heap [] := va_S.rf
  refine W_abs (fun Q hQ => ?_)
  have hl := lv_entry ([.int x0]) (n := 1) (Nat.le_of_ble_eq_true rfl)
  rw [lg_entry_eq]
  generalize (lg_sl ([.int x0]) ++ List.replicate (1 - (lg_sl ([.int x0])).length) Slot.unset).toArray = ls at hl ⊢
  have hl : lv_has ls 1 [(0, .int x0)] := hl
  rw [f_X5_isNote] at hrun
  refine W_start (ws := []) hP hS (fun H locs hP hS => ?_)
  refine lv_iload_n hx hb dX5_isNote_0 rfl (lv_at hl 0 rfl) ?_
  refine lv_if_lt (tgt := 14) hx hb dX5_isNote_1 (by decide) (fun c_1 => ?_) (fun c_1 => ?_)
  · rw [if_pos c_1] at hrun
    refine lv_iconst (v := 0) hx hb dX5_isNote_14 (by decide) ?_
    have hrun := hrun
    subst hrun
    rw [hQ]
    exact W.zret (v := 0) (ty := .boolean) hx hb hr rfl (fun t ht hW => ⟨⟨0, (), rfl, rfl, by rw [ht]; exact hP, hD⟩, hS.F ht⟩) hS.2.2 dX5_isNote_15
  · rw [if_neg c_1] at hrun
    refine lv_iload_n hx hb dX5_isNote_4 rfl (lv_at hl 0 rfl) ?_
    refine lv_bipush (v := 10) hx hb dX5_isNote_5 (by decide) ?_
    refine lv_icmp_ge (tgt := 14) hx hb dX5_isNote_7 (by decide) (fun c_7 => ?_) (fun c_7 => ?_)
    · rw [if_pos c_7] at hrun
      refine lv_iconst (v := 0) hx hb dX5_isNote_14 (by decide) ?_
      have hrun := hrun
      subst hrun
      rw [hQ]
      exact W.zret (v := 0) (ty := .boolean) hx hb hr rfl (fun t ht hW => ⟨⟨0, (), rfl, rfl, by rw [ht]; exact hP, hD⟩, hS.F ht⟩) hS.2.2 dX5_isNote_15
    · rw [if_neg c_7] at hrun
      refine lv_iconst (v := 1) hx hb dX5_isNote_10 (by decide) ?_
      refine lv_goto (tgt := 15) hx hb dX5_isNote_11 (by decide) ?_
      have hrun := hrun
      subst hrun
      rw [hQ]
      exact W.zret (v := 1) (ty := .boolean) hx hb hr rfl (fun t ht hW => ⟨⟨1, (), rfl, rfl, by rw [ht]; exact hP, hD⟩, hS.F ht⟩) hS.2.2 dX5_isNote_15
-- SkyListeners.heard
def f_X5_heard (d_now_log_most : Int32) (d_now_log_many : Int32) (d_now_log_cells : Nat → Int32) (d_now_mounts_many : Int32) (x1 : Int32) (x2 : Int32) (x3 : Int32) (x4 : Int32) : Int32 × Int32 × (Nat → Int32) := (if (f_X5_isHour x1) = 0 then (((-1), d_now_log_many, d_now_log_cells)) else (if (f_X5_isDish d_now_mounts_many x2) = 0 then (((-1), d_now_log_many, d_now_log_cells)) else (if (f_X5_isNote x3) = 0 then (((-1), d_now_log_many, d_now_log_cells)) else (if (f_X5_isBit x4) = 0 then (((-1), d_now_log_many, d_now_log_cells)) else (if (f_X2_isFull d_now_log_most d_now_log_many) = 0 then (((f_X2_add d_now_log_most d_now_log_many d_now_log_cells x1 x2 x3 x4).1, (f_X2_add d_now_log_most d_now_log_many d_now_log_cells x1 x2 x3 x4).1, (f_X2_add d_now_log_most d_now_log_many d_now_log_cells x1 x2 x3 x4).2)) else (((-3), d_now_log_many, d_now_log_cells)))))))
set_option maxHeartbeats 4000000 in
set_option maxRecDepth 100000 in
theorem c_X5_heard (l : Launch) (dC : Nat → ClassId) (dI : Nat → Nat → Nat) (cI cZ : ClassId) (sz : Nat) (p_draft p_imageOne p_imageZero p_now p_now_lendings p_now_log p_now_log_cells p_now_mounts p_now_mounts_cells p_now_undos p_placesOf p_reader p_slots p_text p_this p_told : Nat) (d_keptImages : Int32) (d_traced : Int64) (d_now_log_most : Int32) (d_now_log_many : Int32) (d_now_log_cells : Nat → Int32) (d_now_mounts_most : Int32) (d_now_mounts_many : Int32) (x1 : Int32) (x2 : Int32) (x3 : Int32) (x4 : Int32) (out : Int32 × Int32 × (Nat → Int32)) (hrun : f_X5_heard d_now_log_most d_now_log_many d_now_log_cells d_now_mounts_many x1 x2 x3 x4 = out) : Met l yX5_heard wsX5_heard ({ frames := 3, cells := 0, slots := 0, locals := 69 } : Room) (va_Pc [.ref p_this, .int x1, .int x2, .int x3, .int x4] (PC dC dI cI cZ sz ([(p_this, .inr (5, [.ref p_text, .ref p_reader, .ref p_told, .ref p_draft, .ref p_now, .ref p_imageZero, .ref p_imageOne, .ref p_slots, .ref p_placesOf, .int d_keptImages, .long d_traced])), (p_now, .inr (0, [.ref p_now_mounts, .ref p_now_lendings, .ref p_now_log, .ref p_now_undos])), (p_now_log, .inr (2, [.int d_now_log_most, .ref p_now_log_cells, .int d_now_log_many])), (p_now_log_cells, .inl (cI, 48, .inl d_now_log_cells)), (p_now_mounts, .inr (2, [.int d_now_mounts_most, .ref p_now_mounts_cells, .int d_now_mounts_many]))] : va_W))) (va_Qi (fun r (_ : Unit) => r = out.1) (fun _ t => va_P (dC, dI) vwCl [(p_this, .inr (5, [.ref p_text, .ref p_reader, .ref p_told, .ref p_draft, .ref p_now, .ref p_imageZero, .ref p_imageOne, .ref p_slots, .ref p_placesOf, .int d_keptImages, .long d_traced])), (p_now, .inr (0, [.ref p_now_mounts, .ref p_now_lendings, .ref p_now_log, .ref p_now_undos])), (p_now_log, .inr (2, [.int d_now_log_most, .ref p_now_log_cells, .int out.2.1])), (p_now_log_cells, .inl (cI, 48, .inl out.2.2)), (p_now_mounts, .inr (2, [.int d_now_mounts_most, .ref p_now_mounts_cells, .int d_now_mounts_many]))] t.heap ∧ va_D (va_A ([(p_this, .inr (5, [.ref p_text, .ref p_reader, .ref p_told, .ref p_draft, .ref p_now, .ref p_imageZero, .ref p_imageOne, .ref p_slots, .ref p_placesOf, .int d_keptImages, .long d_traced])), (p_now, .inr (0, [.ref p_now_mounts, .ref p_now_lendings, .ref p_now_log, .ref p_now_undos])), (p_now_log, .inr (2, [.int d_now_log_most, .ref p_now_log_cells, .int d_now_log_many])), (p_now_log_cells, .inl (cI, 48, .inl d_now_log_cells)), (p_now_mounts, .inr (2, [.int d_now_mounts_most, .ref p_now_mounts_cells, .int d_now_mounts_many]))] : va_W) sz) [(p_this, .inr (5, [.ref p_text, .ref p_reader, .ref p_told, .ref p_draft, .ref p_now, .ref p_imageZero, .ref p_imageOne, .ref p_slots, .ref p_placesOf, .int d_keptImages, .long d_traced])), (p_now, .inr (0, [.ref p_now_mounts, .ref p_now_lendings, .ref p_now_log, .ref p_now_undos])), (p_now_log, .inr (2, [.int d_now_log_most, .ref p_now_log_cells, .int out.2.1])), (p_now_log_cells, .inl (cI, 48, .inl out.2.2)), (p_now_mounts, .inr (2, [.int d_now_mounts_most, .ref p_now_mounts_cells, .int d_now_mounts_many]))]) (va_A ([(p_this, .inr (5, [.ref p_text, .ref p_reader, .ref p_told, .ref p_draft, .ref p_now, .ref p_imageZero, .ref p_imageOne, .ref p_slots, .ref p_placesOf, .int d_keptImages, .long d_traced])), (p_now, .inr (0, [.ref p_now_mounts, .ref p_now_lendings, .ref p_now_log, .ref p_now_undos])), (p_now_log, .inr (2, [.int d_now_log_most, .ref p_now_log_cells, .int d_now_log_many])), (p_now_log_cells, .inl (cI, 48, .inl d_now_log_cells)), (p_now_mounts, .inr (2, [.int d_now_mounts_most, .ref p_now_mounts_cells, .int d_now_mounts_many]))] : va_W) sz)) 0 0 (va_A ([(p_this, .inr (5, [.ref p_text, .ref p_reader, .ref p_told, .ref p_draft, .ref p_now, .ref p_imageZero, .ref p_imageOne, .ref p_slots, .ref p_placesOf, .int d_keptImages, .long d_traced])), (p_now, .inr (0, [.ref p_now_mounts, .ref p_now_lendings, .ref p_now_log, .ref p_now_undos])), (p_now_log, .inr (2, [.int d_now_log_most, .ref p_now_log_cells, .int d_now_log_many])), (p_now_log_cells, .inl (cI, 48, .inl d_now_log_cells)), (p_now_mounts, .inr (2, [.int d_now_mounts_most, .ref p_now_mounts_cells, .int d_now_mounts_many]))] : va_W) sz) := by
  refine Met.ofW (cc := cX5_heard) (maxL := 5) (ret := (some .int)) (by decide) rfl ?_
  intro p e s m args below meth c s₁ B hml hv
  obtain ⟨rfl, hsz, hP, hK, hD0, hN⟩ := hv
  have hx := B.exec
  have hb := B.bytes
  have hr := B.returns
  have hts := atoms_spec (ws := wsX5_heard) B.pre
  have hown : s.vm.findClass RX5 = some m.cls := findClass_of_methodNamed B.named
  have hlocks := B.notSynchronized
  subst hsz
  have hD := hD0.self (sz := s.heap.size)
  generalize hAe : va_A ([(p_this, .inr (5, [.ref p_text, .ref p_reader, .ref p_told, .ref p_draft, .ref p_now, .ref p_imageZero, .ref p_imageOne, .ref p_slots, .ref p_placesOf, .int d_keptImages, .long d_traced])), (p_now, .inr (0, [.ref p_now_mounts, .ref p_now_lendings, .ref p_now_log, .ref p_now_undos])), (p_now_log, .inr (2, [.int d_now_log_most, .ref p_now_log_cells, .int d_now_log_many])), (p_now_log_cells, .inl (cI, 48, .inl d_now_log_cells)), (p_now_mounts, .inr (2, [.int d_now_mounts_most, .ref p_now_mounts_cells, .int d_now_mounts_many]))] : va_W) s.heap.size = A at hD ⊢
  have hA : ∀ q : Nat, s.heap.size ≤ q → A q := fun q h => by rw [← hAe]; exact Or.inr h
  have hS : va_S A s.heap s.heap [] := va_S.rf
  refine W_abs (fun Q hQ => ?_)
  have hl := lv_entry ([.ref p_this, .int x1, .int x2, .int x3, .int x4]) (n := 5) (Nat.le_of_ble_eq_true rfl)
  rw [lg_entry_eq]
  generalize (lg_sl ([.ref p_this, .int x1, .int x2, .int x3, .int x4]) ++ List.replicate (5 - (lg_sl ([.ref p_this, .int x1, .int x2, .int x3, .int x4])).length) Slot.unset).toArray = ls at hl ⊢
  have hl : lv_has ls 5 [(0, .ref p_this), (1, .int x1), (2, .int x2), (3, .int x3), (4, .int x4)] := hl
  rw [f_X5_heard] at hrun
  refine W_start (ws := [(p_this, .inr (5, [.ref p_text, .ref p_reader, .ref p_told, .ref p_draft, .ref p_now, .ref p_imageZero, .ref p_imageOne, .ref p_slots, .ref p_placesOf, .int d_keptImages, .long d_traced])), (p_now, .inr (0, [.ref p_now_mounts, .ref p_now_lendings, .ref p_now_log, .ref p_now_undos])), (p_now_log, .inr (2, [.int d_now_log_most, .ref p_now_log_cells, .int d_now_log_many])), (p_now_log_cells, .inl (cI, 48, .inl d_now_log_cells)), (p_now_mounts, .inr (2, [.int d_now_mounts_most, .ref p_now_mounts_cells, .int d_now_mounts_many]))]) hP hS (fun H locs hP hS => ?_)
  have iwX0 : ∀ w ∈ wsX00, w ∈ wsX5_heard := by decide +kernel
  have iwX2 : ∀ w ∈ wsX20, w ∈ wsX5_heard := by decide +kernel
  have iwX5 : ∀ w ∈ wsX50, w ∈ wsX5_heard := by decide +kernel
  refine lv_iload_n hx hb dX5_heard_0 rfl (lv_at hl 1 rfl) ?_
  have hPc : va_P (dC, dI) vwCl [] H := hP.sub [] rfl
  have hDc : va_D A [] := hD.sub [] (by decide) rfl
  have hFc := va_free (wc := []) hD hS hA [] rfl
  refine va_calli (va_runS (As := [.int x1]) (rest := []) ⟨hx, hb, hml, hown, hts⟩ (c_X5_isHour l dC dI cI cZ H.size x1 (f_X5_isHour x1) rfl) (va_cwS 1 hts gX5_heard_X5_isHour rfl rfl rfl (by decide +kernel) ⟨Nat.le_of_ble_eq_true rfl, Nat.le_of_ble_eq_true rfl⟩) ⟨fun a U g mk q => ⟨q.1, PC.mv q.2⟩, fun U hU hW => ⟨rfl, PC.of hU hW hPc hK hDc hN⟩⟩ rfl rfl hl.1 rfl (lv_room (Nat.le_of_ble_eq_true rfl)) dX5_heard_1 ⟨Nat.zero_le _, Nat.zero_le _⟩) hS (fun q _ h => hFc q h) hFc (fun r_1 u t H1 locs ht hvm hw hB hz1 hk1 hS => ?_)
  obtain ⟨hP1, hD1⟩ := hB
  try dsimp only at hw
  rw [hw]
  rw [ht] at hP1
  have hP : va_P (dC, dI) vwCl [(p_this, .inr (5, [.ref p_text, .ref p_reader, .ref p_told, .ref p_draft, .ref p_now, .ref p_imageZero, .ref p_imageOne, .ref p_slots, .ref p_placesOf, .int d_keptImages, .long d_traced])), (p_now, .inr (0, [.ref p_now_mounts, .ref p_now_lendings, .ref p_now_log, .ref p_now_undos])), (p_now_log, .inr (2, [.int d_now_log_most, .ref p_now_log_cells, .int d_now_log_many])), (p_now_log_cells, .inl (cI, 48, .inl d_now_log_cells)), (p_now_mounts, .inr (2, [.int d_now_mounts_most, .ref p_now_mounts_cells, .int d_now_mounts_many]))] H1 := join_ro hP hD [] rfl hk1 hP1
  clear hPc hDc hFc hk1 hz1 hP1 hD1 ht hvm
  generalize H1 = H at hP hS ⊢
  refine lv_if_eq (tgt := 30) hx hb dX5_heard_4 (by decide) (fun c_4 => ?_) (fun c_4 => ?_)
  · rw [if_pos c_4] at hrun
    refine lv_iconst (v := (-1)) hx hb dX5_heard_30 (by decide) ?_
    have hrun := hrun
    subst hrun
    rw [hQ]
    exact W.iret (v := (-1)) hx hb hr (fun t ht hW => ⟨⟨(-1), (), rfl, rfl, by rw [ht]; exact hP, hD⟩, hS.F ht⟩) hS.2.2 dX5_heard_31
  · rw [if_neg c_4] at hrun
    refine lv_aload_n hx hb dX5_heard_7 rfl (lv_at hl 0 rfl) ?_
    refine lv_iload_n hx hb dX5_heard_8 rfl (lv_at hl 2 rfl) ?_
    have hPc : va_P (dC, dI) vwCl [(p_this, .inr (5, [.ref p_text, .ref p_reader, .ref p_told, .ref p_draft, .ref p_now, .ref p_imageZero, .ref p_imageOne, .ref p_slots, .ref p_placesOf, .int d_keptImages, .long d_traced])), (p_now, .inr (0, [.ref p_now_mounts, .ref p_now_lendings, .ref p_now_log, .ref p_now_undos])), (p_now_mounts, .inr (2, [.int d_now_mounts_most, .ref p_now_mounts_cells, .int d_now_mounts_many]))] H := hP.sub [0, 1, 4] rfl
    have hDc : va_D A [(p_this, .inr (5, [.ref p_text, .ref p_reader, .ref p_told, .ref p_draft, .ref p_now, .ref p_imageZero, .ref p_imageOne, .ref p_slots, .ref p_placesOf, .int d_keptImages, .long d_traced])), (p_now, .inr (0, [.ref p_now_mounts, .ref p_now_lendings, .ref p_now_log, .ref p_now_undos])), (p_now_mounts, .inr (2, [.int d_now_mounts_most, .ref p_now_mounts_cells, .int d_now_mounts_many]))] := hD.sub [0, 1, 4] (by decide) rfl
    have hFc := va_free (wc := [(p_this, .inr (5, [.ref p_text, .ref p_reader, .ref p_told, .ref p_draft, .ref p_now, .ref p_imageZero, .ref p_imageOne, .ref p_slots, .ref p_placesOf, .int d_keptImages, .long d_traced])), (p_now, .inr (0, [.ref p_now_mounts, .ref p_now_lendings, .ref p_now_log, .ref p_now_undos])), (p_now_mounts, .inr (2, [.int d_now_mounts_most, .ref p_now_mounts_cells, .int d_now_mounts_many]))]) hD hS hA [0, 1, 4] rfl
    refine va_calli (va_runV (As := [.int x2]) (rest := []) ⟨hx, hb, hml, hown, hts⟩ (c_X5_isDish l dC dI cI cZ H.size p_draft p_imageOne p_imageZero p_now p_now_lendings p_now_log p_now_mounts p_now_mounts_cells p_now_undos p_placesOf p_reader p_slots p_text p_this p_told d_keptImages d_traced d_now_mounts_most d_now_mounts_many x2 (f_X5_isDish d_now_mounts_many x2) rfl) (cwV 1 hts gX5_heard_X5_isDish rfl rfl rfl (by decide +kernel) ⟨Nat.le_of_ble_eq_true rfl, Nat.le_of_ble_eq_true rfl⟩) ⟨fun a U g mk q => ⟨q.1, PC.mv q.2⟩, va_recv hK hP (ci := 5) (q0 := 0) rfl rfl, fun U hU hW => ⟨rfl, PC.of hU hW hPc hK hDc hN⟩⟩ rfl rfl hl.1 rfl (lv_room (Nat.le_of_ble_eq_true rfl)) dX5_heard_9 ⟨Nat.zero_le _, Nat.zero_le _⟩) hS (fun q _ h => hFc q h) hFc (fun r_9 u t H1 locs ht hvm hw hB hz1 hk1 hS => ?_)
    obtain ⟨hP1, hD1⟩ := hB
    try dsimp only at hw
    rw [hw]
    rw [ht] at hP1
    have hP : va_P (dC, dI) vwCl [(p_this, .inr (5, [.ref p_text, .ref p_reader, .ref p_told, .ref p_draft, .ref p_now, .ref p_imageZero, .ref p_imageOne, .ref p_slots, .ref p_placesOf, .int d_keptImages, .long d_traced])), (p_now, .inr (0, [.ref p_now_mounts, .ref p_now_lendings, .ref p_now_log, .ref p_now_undos])), (p_now_log, .inr (2, [.int d_now_log_most, .ref p_now_log_cells, .int d_now_log_many])), (p_now_log_cells, .inl (cI, 48, .inl d_now_log_cells)), (p_now_mounts, .inr (2, [.int d_now_mounts_most, .ref p_now_mounts_cells, .int d_now_mounts_many]))] H1 := join_ro hP hD [0, 1, 4] rfl hk1 hP1
    clear hPc hDc hFc hk1 hz1 hP1 hD1 ht hvm
    generalize H1 = H at hP hS ⊢
    refine lv_if_eq (tgt := 30) hx hb dX5_heard_12 (by decide) (fun c_12 => ?_) (fun c_12 => ?_)
    · rw [if_pos c_12] at hrun
      refine lv_iconst (v := (-1)) hx hb dX5_heard_30 (by decide) ?_
      have hrun := hrun
      subst hrun
      rw [hQ]
      exact W.iret (v := (-1)) hx hb hr (fun t ht hW => ⟨⟨(-1), (), rfl, rfl, by rw [ht]; exact hP, hD⟩, hS.F ht⟩) hS.2.2 dX5_heard_31
    · rw [if_neg c_12] at hrun
      refine lv_iload_n hx hb dX5_heard_15 rfl (lv_at hl 3 rfl) ?_
      have hPc : va_P (dC, dI) vwCl [] H := hP.sub [] rfl
      have hDc : va_D A [] := hD.sub [] (by decide) rfl
      have hFc := va_free (wc := []) hD hS hA [] rfl
      refine va_calli (va_runS (As := [.int x3]) (rest := []) ⟨hx, hb, hml, hown, hts⟩ (c_X5_isNote l dC dI cI cZ H.size x3 (f_X5_isNote x3) rfl) (va_cwS 1 hts gX5_heard_X5_isNote rfl rfl rfl (by decide +kernel) ⟨Nat.le_of_ble_eq_true rfl, Nat.le_of_ble_eq_true rfl⟩) ⟨fun a U g mk q => ⟨q.1, PC.mv q.2⟩, fun U hU hW => ⟨rfl, PC.of hU hW hPc hK hDc hN⟩⟩ rfl rfl hl.1 rfl (lv_room (Nat.le_of_ble_eq_true rfl)) dX5_heard_16 ⟨Nat.zero_le _, Nat.zero_le _⟩) hS (fun q _ h => hFc q h) hFc (fun r_16 u t H1 locs ht hvm hw hB hz1 hk1 hS => ?_)
      obtain ⟨hP1, hD1⟩ := hB
      try dsimp only at hw
      rw [hw]
      rw [ht] at hP1
      have hP : va_P (dC, dI) vwCl [(p_this, .inr (5, [.ref p_text, .ref p_reader, .ref p_told, .ref p_draft, .ref p_now, .ref p_imageZero, .ref p_imageOne, .ref p_slots, .ref p_placesOf, .int d_keptImages, .long d_traced])), (p_now, .inr (0, [.ref p_now_mounts, .ref p_now_lendings, .ref p_now_log, .ref p_now_undos])), (p_now_log, .inr (2, [.int d_now_log_most, .ref p_now_log_cells, .int d_now_log_many])), (p_now_log_cells, .inl (cI, 48, .inl d_now_log_cells)), (p_now_mounts, .inr (2, [.int d_now_mounts_most, .ref p_now_mounts_cells, .int d_now_mounts_many]))] H1 := join_ro hP hD [] rfl hk1 hP1
      clear hPc hDc hFc hk1 hz1 hP1 hD1 ht hvm
      generalize H1 = H at hP hS ⊢
      refine lv_if_eq (tgt := 30) hx hb dX5_heard_19 (by decide) (fun c_19 => ?_) (fun c_19 => ?_)
      · rw [if_pos c_19] at hrun
        refine lv_iconst (v := (-1)) hx hb dX5_heard_30 (by decide) ?_
        have hrun := hrun
        subst hrun
        rw [hQ]
        exact W.iret (v := (-1)) hx hb hr (fun t ht hW => ⟨⟨(-1), (), rfl, rfl, by rw [ht]; exact hP, hD⟩, hS.F ht⟩) hS.2.2 dX5_heard_31
      · rw [if_neg c_19] at hrun
        refine lv_iload hx hb dX5_heard_22 (lv_at hl 4 rfl) ?_
        have hPc : va_P (dC, dI) vwCl [] H := hP.sub [] rfl
        have hDc : va_D A [] := hD.sub [] (by decide) rfl
        have hFc := va_free (wc := []) hD hS hA [] rfl
        refine va_calli (va_runS (As := [.int x4]) (rest := []) ⟨hx, hb, hml, hown, hts⟩ (c_X5_isBit l dC dI cI cZ H.size x4 (f_X5_isBit x4) rfl) (va_cwS 1 hts gX5_heard_X5_isBit rfl rfl rfl (by decide +kernel) ⟨Nat.le_of_ble_eq_true rfl, Nat.le_of_ble_eq_true rfl⟩) ⟨fun a U g mk q => ⟨q.1, PC.mv q.2⟩, fun U hU hW => ⟨rfl, PC.of hU hW hPc hK hDc hN⟩⟩ rfl rfl hl.1 rfl (lv_room (Nat.le_of_ble_eq_true rfl)) dX5_heard_24 ⟨Nat.zero_le _, Nat.zero_le _⟩) hS (fun q _ h => hFc q h) hFc (fun r_24 u t H1 locs ht hvm hw hB hz1 hk1 hS => ?_)
        obtain ⟨hP1, hD1⟩ := hB
        try dsimp only at hw
        rw [hw]
        rw [ht] at hP1
        have hP : va_P (dC, dI) vwCl [(p_this, .inr (5, [.ref p_text, .ref p_reader, .ref p_told, .ref p_draft, .ref p_now, .ref p_imageZero, .ref p_imageOne, .ref p_slots, .ref p_placesOf, .int d_keptImages, .long d_traced])), (p_now, .inr (0, [.ref p_now_mounts, .ref p_now_lendings, .ref p_now_log, .ref p_now_undos])), (p_now_log, .inr (2, [.int d_now_log_most, .ref p_now_log_cells, .int d_now_log_many])), (p_now_log_cells, .inl (cI, 48, .inl d_now_log_cells)), (p_now_mounts, .inr (2, [.int d_now_mounts_most, .ref p_now_mounts_cells, .int d_now_mounts_many]))] H1 := join_ro hP hD [] rfl hk1 hP1
        clear hPc hDc hFc hk1 hz1 hP1 hD1 ht hvm
        generalize H1 = H at hP hS ⊢
        refine lv_if_ne (tgt := 32) hx hb dX5_heard_27 (by decide) (fun c_27 => ?_) (fun c_27 => ?_)
        · rw [if_neg c_27] at hrun
          refine lv_aload_n hx hb dX5_heard_32 rfl (lv_at hl 0 rfl) ?_
          refine va_get (D := (dC, dI)) (ci := 5) (v := .ref p_now) (C := RX5) (T := TX5) (N := 11) hx hb hts iwX5 hown hK hP 0 rfl rfl 4 (by decide) (hts (.fieldLink RX5 36 "SkyListeners" "now" "LSkyListeners$Now;") (by decide +kernel)) (fun _ h9 => h9) rfl dX5_heard_33 ?_
          refine va_get (D := (dC, dI)) (ci := 0) (v := .ref p_now_log) (C := RX0) (T := TX0) (N := 4) hx hb hts iwX0 hown hK hP 1 rfl rfl 2 (by decide) (hts (.fieldLink RX5 183 "SkyListeners$Now" "log" "LSkyListeners$Rows;") (by decide +kernel)) (fun _ h9 => h9) rfl dX5_heard_36 ?_
          have hPc : va_P (dC, dI) vwCl [(p_now_log, .inr (2, [.int d_now_log_most, .ref p_now_log_cells, .int d_now_log_many]))] H := hP.sub [2] rfl
          have hDc : va_D A [(p_now_log, .inr (2, [.int d_now_log_most, .ref p_now_log_cells, .int d_now_log_many]))] := hD.sub [2] (by decide) rfl
          have hFc := va_free (wc := [(p_now_log, .inr (2, [.int d_now_log_most, .ref p_now_log_cells, .int d_now_log_many]))]) hD hS hA [2] rfl
          refine va_calli (va_runV (As := []) (rest := []) ⟨hx, hb, hml, hown, hts⟩ (c_X2_isFull l dC dI cI cZ H.size p_now_log_cells p_now_log d_now_log_most d_now_log_many (f_X2_isFull d_now_log_most d_now_log_many) rfl) (cwV 0 hts gX5_heard_X2_isFull rfl rfl rfl (by decide +kernel) ⟨Nat.le_of_ble_eq_true rfl, Nat.le_of_ble_eq_true rfl⟩) ⟨fun a U g mk q => ⟨q.1, PC.mv q.2⟩, va_recv hK hP (ci := 2) (q0 := 2) rfl rfl, fun U hU hW => ⟨rfl, PC.of hU hW hPc hK hDc hN⟩⟩ rfl rfl hl.1 rfl (lv_room (Nat.le_of_ble_eq_true rfl)) dX5_heard_39 ⟨Nat.zero_le _, Nat.zero_le _⟩) hS (fun q _ h => hFc q h) hFc (fun r_39 u t H1 locs ht hvm hw hB hz1 hk1 hS => ?_)
          obtain ⟨hP1, hD1⟩ := hB
          try dsimp only at hw
          rw [hw]
          rw [ht] at hP1
          have hP : va_P (dC, dI) vwCl [(p_this, .inr (5, [.ref p_text, .ref p_reader, .ref p_told, .ref p_draft, .ref p_now, .ref p_imageZero, .ref p_imageOne, .ref p_slots, .ref p_placesOf, .int d_keptImages, .long d_traced])), (p_now, .inr (0, [.ref p_now_mounts, .ref p_now_lendings, .ref p_now_log, .ref p_now_undos])), (p_now_log, .inr (2, [.int d_now_log_most, .ref p_now_log_cells, .int d_now_log_many])), (p_now_log_cells, .inl (cI, 48, .inl d_now_log_cells)), (p_now_mounts, .inr (2, [.int d_now_mounts_most, .ref p_now_mounts_cells, .int d_now_mounts_many]))] H1 := join_ro hP hD [2] rfl hk1 hP1
          clear hPc hDc hFc hk1 hz1 hP1 hD1 ht hvm
          generalize H1 = H at hP hS ⊢
          refine lv_if_eq (tgt := 48) hx hb dX5_heard_42 (by decide) (fun c_42 => ?_) (fun c_42 => ?_)
          · rw [if_pos c_42] at hrun
            refine lv_aload_n hx hb dX5_heard_48 rfl (lv_at hl 0 rfl) ?_
            refine va_get (D := (dC, dI)) (ci := 5) (v := .ref p_now) (C := RX5) (T := TX5) (N := 11) hx hb hts iwX5 hown hK hP 0 rfl rfl 4 (by decide) (hts (.fieldLink RX5 36 "SkyListeners" "now" "LSkyListeners$Now;") (by decide +kernel)) (fun _ h9 => h9) rfl dX5_heard_49 ?_
            refine va_get (D := (dC, dI)) (ci := 0) (v := .ref p_now_log) (C := RX0) (T := TX0) (N := 4) hx hb hts iwX0 hown hK hP 1 rfl rfl 2 (by decide) (hts (.fieldLink RX5 183 "SkyListeners$Now" "log" "LSkyListeners$Rows;") (by decide +kernel)) (fun _ h9 => h9) rfl dX5_heard_52 ?_
            refine lv_iload_n hx hb dX5_heard_55 rfl (lv_at hl 1 rfl) ?_
            refine lv_iload_n hx hb dX5_heard_56 rfl (lv_at hl 2 rfl) ?_
            refine lv_iload_n hx hb dX5_heard_57 rfl (lv_at hl 3 rfl) ?_
            refine lv_iload hx hb dX5_heard_58 (lv_at hl 4 rfl) ?_
            have hPc : va_P (dC, dI) vwCl [(p_now_log, .inr (2, [.int d_now_log_most, .ref p_now_log_cells, .int d_now_log_many])), (p_now_log_cells, .inl (cI, 48, .inl d_now_log_cells))] H := hP.sub [2, 3] rfl
            have hDc : va_D A [(p_now_log, .inr (2, [.int d_now_log_most, .ref p_now_log_cells, .int d_now_log_many])), (p_now_log_cells, .inl (cI, 48, .inl d_now_log_cells))] := hD.sub [2, 3] (by decide) rfl
            have hFc := va_free (wc := [(p_now_log, .inr (2, [.int d_now_log_most, .ref p_now_log_cells, .int d_now_log_many])), (p_now_log_cells, .inl (cI, 48, .inl d_now_log_cells))]) hD hS hA [2, 3] rfl
            refine va_callv (va_runV (As := [.int x1, .int x2, .int x3, .int x4]) (rest := []) ⟨hx, hb, hml, hown, hts⟩ (c_X2_add l dC dI cI cZ H.size p_now_log_cells p_now_log d_now_log_most d_now_log_many d_now_log_cells x1 x2 x3 x4 (f_X2_add d_now_log_most d_now_log_many d_now_log_cells x1 x2 x3 x4) rfl) (cwV 4 hts gX5_heard_X2_add rfl rfl rfl (by decide +kernel) ⟨Nat.le_of_ble_eq_true rfl, Nat.le_of_ble_eq_true rfl⟩) ⟨fun a U g mk q => ⟨q.1, PC.mv q.2⟩, va_recv hK hP (ci := 2) (q0 := 2) rfl rfl, fun U hU hW => ⟨rfl, PC.of hU hW hPc hK hDc hN⟩⟩ rfl rfl hl.1 rfl (lv_room (Nat.le_of_ble_eq_true rfl)) dX5_heard_60 ⟨Nat.zero_le _, Nat.zero_le _⟩) hS (fun q _ h => hFc q h) hFc (fun u t H1 locs ht hvm hw hB hz1 hk1 hS => ?_)
            obtain ⟨hP1, hD1⟩ := hB
            rw [ht] at hP1
            obtain ⟨hP, hD⟩ := va_join (wr := [(p_this, .inr (5, [.ref p_text, .ref p_reader, .ref p_told, .ref p_draft, .ref p_now, .ref p_imageZero, .ref p_imageOne, .ref p_slots, .ref p_placesOf, .int d_keptImages, .long d_traced])), (p_now, .inr (0, [.ref p_now_mounts, .ref p_now_lendings, .ref p_now_log, .ref p_now_undos])), (p_now_mounts, .inr (2, [.int d_now_mounts_most, .ref p_now_mounts_cells, .int d_now_mounts_many]))]) (w1 := [(p_now_log, .inr (2, [.int d_now_log_most, .ref p_now_log_cells, .int ((f_X2_add d_now_log_most d_now_log_many d_now_log_cells x1 x2 x3 x4).1)])), (p_now_log_cells, .inl (cI, 48, .inl ((f_X2_add d_now_log_most d_now_log_many d_now_log_cells x1 x2 x3 x4).2)))]) hP hD [2, 3] [0, 1, 4] rfl rfl (by decide) (by decide) hk1 hFc hP1 hD1
            have hP : va_P (dC, dI) vwCl [(p_this, .inr (5, [.ref p_text, .ref p_reader, .ref p_told, .ref p_draft, .ref p_now, .ref p_imageZero, .ref p_imageOne, .ref p_slots, .ref p_placesOf, .int d_keptImages, .long d_traced])), (p_now, .inr (0, [.ref p_now_mounts, .ref p_now_lendings, .ref p_now_log, .ref p_now_undos])), (p_now_log, .inr (2, [.int d_now_log_most, .ref p_now_log_cells, .int ((f_X2_add d_now_log_most d_now_log_many d_now_log_cells x1 x2 x3 x4).1)])), (p_now_log_cells, .inl (cI, 48, .inl ((f_X2_add d_now_log_most d_now_log_many d_now_log_cells x1 x2 x3 x4).2))), (p_now_mounts, .inr (2, [.int d_now_mounts_most, .ref p_now_mounts_cells, .int d_now_mounts_many]))] H1 := hP.sub [0, 1, 3, 4, 2] rfl
            have hD : va_D A [(p_this, .inr (5, [.ref p_text, .ref p_reader, .ref p_told, .ref p_draft, .ref p_now, .ref p_imageZero, .ref p_imageOne, .ref p_slots, .ref p_placesOf, .int d_keptImages, .long d_traced])), (p_now, .inr (0, [.ref p_now_mounts, .ref p_now_lendings, .ref p_now_log, .ref p_now_undos])), (p_now_log, .inr (2, [.int d_now_log_most, .ref p_now_log_cells, .int ((f_X2_add d_now_log_most d_now_log_many d_now_log_cells x1 x2 x3 x4).1)])), (p_now_log_cells, .inl (cI, 48, .inl ((f_X2_add d_now_log_most d_now_log_many d_now_log_cells x1 x2 x3 x4).2))), (p_now_mounts, .inr (2, [.int d_now_mounts_most, .ref p_now_mounts_cells, .int d_now_mounts_many]))] := hD.sub [0, 1, 3, 4, 2] (by decide) rfl
            clear hPc hDc hFc hk1 hz1 hP1 hD1 ht hvm
            generalize H1 = H at hP hS ⊢
            refine lv_aload_n hx hb dX5_heard_63 rfl (lv_at hl 0 rfl) ?_
            refine va_get (D := (dC, dI)) (ci := 5) (v := .ref p_now) (C := RX5) (T := TX5) (N := 11) hx hb hts iwX5 hown hK hP 0 rfl rfl 4 (by decide) (hts (.fieldLink RX5 36 "SkyListeners" "now" "LSkyListeners$Now;") (by decide +kernel)) (fun _ h9 => h9) rfl dX5_heard_64 ?_
            refine va_get (D := (dC, dI)) (ci := 0) (v := .ref p_now_log) (C := RX0) (T := TX0) (N := 4) hx hb hts iwX0 hown hK hP 1 rfl rfl 2 (by decide) (hts (.fieldLink RX5 183 "SkyListeners$Now" "log" "LSkyListeners$Rows;") (by decide +kernel)) (fun _ h9 => h9) rfl dX5_heard_67 ?_
            refine va_get (D := (dC, dI)) (ci := 2) (v := .int ((f_X2_add d_now_log_most d_now_log_many d_now_log_cells x1 x2 x3 x4).1)) (C := RX2) (T := TX2) (N := 3) hx hb hts iwX2 hown hK hP 2 rfl rfl 2 (by decide) (hts (.fieldLink RX5 136 "SkyListeners$Rows" "many" "I") (by decide +kernel)) (fun _ h9 => h9) rfl dX5_heard_70 ?_
            have hrun := hrun
            subst hrun
            rw [hQ]
            exact W.iret (v := (f_X2_add d_now_log_most d_now_log_many d_now_log_cells x1 x2 x3 x4).1) hx hb hr (fun t ht hW => ⟨⟨(f_X2_add d_now_log_most d_now_log_many d_now_log_cells x1 x2 x3 x4).1, (), rfl, rfl, by rw [ht]; exact hP, hD⟩, hS.F ht⟩) hS.2.2 dX5_heard_73
          · rw [if_neg c_42] at hrun
            refine lv_bipush (v := (-3)) hx hb dX5_heard_45 (by decide) ?_
            have hrun := hrun
            subst hrun
            rw [hQ]
            exact W.iret (v := (-3)) hx hb hr (fun t ht hW => ⟨⟨(-3), (), rfl, rfl, by rw [ht]; exact hP, hD⟩, hS.F ht⟩) hS.2.2 dX5_heard_47
        · rw [if_pos c_27] at hrun
          refine lv_iconst (v := (-1)) hx hb dX5_heard_30 (by decide) ?_
          have hrun := hrun
          subst hrun
          rw [hQ]
          exact W.iret (v := (-1)) hx hb hr (fun t ht hW => ⟨⟨(-1), (), rfl, rfl, by rw [ht]; exact hP, hD⟩, hS.F ht⟩) hS.2.2 dX5_heard_31
-- SkyListeners.forget
def f_X5_forget (d_now_log_many : Int32) : Int32 × Int32 := ((d_now_log_many, (f_X2_empty d_now_log_many)))
set_option maxHeartbeats 4000000 in
set_option maxRecDepth 100000 in
theorem c_X5_forget (l : Launch) (dC : Nat → ClassId) (dI : Nat → Nat → Nat) (cI cZ : ClassId) (sz : Nat) (p_draft p_imageOne p_imageZero p_now p_now_lendings p_now_log p_now_log_cells p_now_mounts p_now_undos p_placesOf p_reader p_slots p_text p_this p_told : Nat) (d_keptImages : Int32) (d_traced : Int64) (d_now_log_most : Int32) (d_now_log_many : Int32) (out : Int32 × Int32) (hrun : f_X5_forget d_now_log_many = out) : Met l yX5_forget wsX5_forget ({ frames := 1, cells := 0, slots := 0, locals := 20 } : Room) (va_Pc [.ref p_this] (PC dC dI cI cZ sz ([(p_this, .inr (5, [.ref p_text, .ref p_reader, .ref p_told, .ref p_draft, .ref p_now, .ref p_imageZero, .ref p_imageOne, .ref p_slots, .ref p_placesOf, .int d_keptImages, .long d_traced])), (p_now, .inr (0, [.ref p_now_mounts, .ref p_now_lendings, .ref p_now_log, .ref p_now_undos])), (p_now_log, .inr (2, [.int d_now_log_most, .ref p_now_log_cells, .int d_now_log_many]))] : va_W))) (va_Qi (fun r (_ : Unit) => r = out.1) (fun _ t => va_P (dC, dI) vwCl [(p_this, .inr (5, [.ref p_text, .ref p_reader, .ref p_told, .ref p_draft, .ref p_now, .ref p_imageZero, .ref p_imageOne, .ref p_slots, .ref p_placesOf, .int d_keptImages, .long d_traced])), (p_now, .inr (0, [.ref p_now_mounts, .ref p_now_lendings, .ref p_now_log, .ref p_now_undos])), (p_now_log, .inr (2, [.int d_now_log_most, .ref p_now_log_cells, .int out.2]))] t.heap ∧ va_D (va_A ([(p_this, .inr (5, [.ref p_text, .ref p_reader, .ref p_told, .ref p_draft, .ref p_now, .ref p_imageZero, .ref p_imageOne, .ref p_slots, .ref p_placesOf, .int d_keptImages, .long d_traced])), (p_now, .inr (0, [.ref p_now_mounts, .ref p_now_lendings, .ref p_now_log, .ref p_now_undos])), (p_now_log, .inr (2, [.int d_now_log_most, .ref p_now_log_cells, .int d_now_log_many]))] : va_W) sz) [(p_this, .inr (5, [.ref p_text, .ref p_reader, .ref p_told, .ref p_draft, .ref p_now, .ref p_imageZero, .ref p_imageOne, .ref p_slots, .ref p_placesOf, .int d_keptImages, .long d_traced])), (p_now, .inr (0, [.ref p_now_mounts, .ref p_now_lendings, .ref p_now_log, .ref p_now_undos])), (p_now_log, .inr (2, [.int d_now_log_most, .ref p_now_log_cells, .int out.2]))]) (va_A ([(p_this, .inr (5, [.ref p_text, .ref p_reader, .ref p_told, .ref p_draft, .ref p_now, .ref p_imageZero, .ref p_imageOne, .ref p_slots, .ref p_placesOf, .int d_keptImages, .long d_traced])), (p_now, .inr (0, [.ref p_now_mounts, .ref p_now_lendings, .ref p_now_log, .ref p_now_undos])), (p_now_log, .inr (2, [.int d_now_log_most, .ref p_now_log_cells, .int d_now_log_many]))] : va_W) sz)) 0 0 (va_A ([(p_this, .inr (5, [.ref p_text, .ref p_reader, .ref p_told, .ref p_draft, .ref p_now, .ref p_imageZero, .ref p_imageOne, .ref p_slots, .ref p_placesOf, .int d_keptImages, .long d_traced])), (p_now, .inr (0, [.ref p_now_mounts, .ref p_now_lendings, .ref p_now_log, .ref p_now_undos])), (p_now_log, .inr (2, [.int d_now_log_most, .ref p_now_log_cells, .int d_now_log_many]))] : va_W) sz) := by
  refine Met.ofW (cc := cX5_forget) (maxL := 2) (ret := (some .int)) (by decide) rfl ?_
  intro p e s m args below meth c s₁ B hml hv
  obtain ⟨rfl, hsz, hP, hK, hD0, hN⟩ := hv
  have hx := B.exec
  have hb := B.bytes
  have hr := B.returns
  have hts := atoms_spec (ws := wsX5_forget) B.pre
  have hown : s.vm.findClass RX5 = some m.cls := findClass_of_methodNamed B.named
  have hlocks := B.notSynchronized
  subst hsz
  have hD := hD0.self (sz := s.heap.size)
  generalize hAe : va_A ([(p_this, .inr (5, [.ref p_text, .ref p_reader, .ref p_told, .ref p_draft, .ref p_now, .ref p_imageZero, .ref p_imageOne, .ref p_slots, .ref p_placesOf, .int d_keptImages, .long d_traced])), (p_now, .inr (0, [.ref p_now_mounts, .ref p_now_lendings, .ref p_now_log, .ref p_now_undos])), (p_now_log, .inr (2, [.int d_now_log_most, .ref p_now_log_cells, .int d_now_log_many]))] : va_W) s.heap.size = A at hD ⊢
  have hA : ∀ q : Nat, s.heap.size ≤ q → A q := fun q h => by rw [← hAe]; exact Or.inr h
  have hS : va_S A s.heap s.heap [] := va_S.rf
  refine W_abs (fun Q hQ => ?_)
  have hl := lv_entry ([.ref p_this]) (n := 2) (Nat.le_of_ble_eq_true rfl)
  rw [lg_entry_eq]
  generalize (lg_sl ([.ref p_this]) ++ List.replicate (2 - (lg_sl ([.ref p_this])).length) Slot.unset).toArray = ls at hl ⊢
  have hl : lv_has ls 2 [(0, .ref p_this)] := hl
  rw [f_X5_forget] at hrun
  refine W_start (ws := [(p_this, .inr (5, [.ref p_text, .ref p_reader, .ref p_told, .ref p_draft, .ref p_now, .ref p_imageZero, .ref p_imageOne, .ref p_slots, .ref p_placesOf, .int d_keptImages, .long d_traced])), (p_now, .inr (0, [.ref p_now_mounts, .ref p_now_lendings, .ref p_now_log, .ref p_now_undos])), (p_now_log, .inr (2, [.int d_now_log_most, .ref p_now_log_cells, .int d_now_log_many]))]) hP hS (fun H locs hP hS => ?_)
  have iwX0 : ∀ w ∈ wsX00, w ∈ wsX5_forget := by decide +kernel
  have iwX2 : ∀ w ∈ wsX20, w ∈ wsX5_forget := by decide +kernel
  have iwX5 : ∀ w ∈ wsX50, w ∈ wsX5_forget := by decide +kernel
  refine lv_aload_n hx hb dX5_forget_0 rfl (lv_at hl 0 rfl) ?_
  refine va_get (D := (dC, dI)) (ci := 5) (v := .ref p_now) (C := RX5) (T := TX5) (N := 11) hx hb hts iwX5 hown hK hP 0 rfl rfl 4 (by decide) (hts (.fieldLink RX5 36 "SkyListeners" "now" "LSkyListeners$Now;") (by decide +kernel)) (fun _ h9 => h9) rfl dX5_forget_1 ?_
  refine va_get (D := (dC, dI)) (ci := 0) (v := .ref p_now_log) (C := RX0) (T := TX0) (N := 4) hx hb hts iwX0 hown hK hP 1 rfl rfl 2 (by decide) (hts (.fieldLink RX5 183 "SkyListeners$Now" "log" "LSkyListeners$Rows;") (by decide +kernel)) (fun _ h9 => h9) rfl dX5_forget_4 ?_
  refine va_get (D := (dC, dI)) (ci := 2) (v := .int d_now_log_many) (C := RX2) (T := TX2) (N := 3) hx hb hts iwX2 hown hK hP 2 rfl rfl 2 (by decide) (hts (.fieldLink RX5 136 "SkyListeners$Rows" "many" "I") (by decide +kernel)) (fun _ h9 => h9) rfl dX5_forget_7 ?_
  refine lv_istore_n (lv' := [(1, .int d_now_log_many), (0, .ref p_this)]) hx hb dX5_forget_10 rfl hl (by decide) rfl (fun ls hl => ?_)
  refine lv_aload_n hx hb dX5_forget_11 rfl (lv_at hl 1 rfl) ?_
  refine va_get (D := (dC, dI)) (ci := 5) (v := .ref p_now) (C := RX5) (T := TX5) (N := 11) hx hb hts iwX5 hown hK hP 0 rfl rfl 4 (by decide) (hts (.fieldLink RX5 36 "SkyListeners" "now" "LSkyListeners$Now;") (by decide +kernel)) (fun _ h9 => h9) rfl dX5_forget_12 ?_
  refine va_get (D := (dC, dI)) (ci := 0) (v := .ref p_now_log) (C := RX0) (T := TX0) (N := 4) hx hb hts iwX0 hown hK hP 1 rfl rfl 2 (by decide) (hts (.fieldLink RX5 183 "SkyListeners$Now" "log" "LSkyListeners$Rows;") (by decide +kernel)) (fun _ h9 => h9) rfl dX5_forget_15 ?_
  have hPc : va_P (dC, dI) vwCl [(p_now_log, .inr (2, [.int d_now_log_most, .ref p_now_log_cells, .int d_now_log_many]))] H := hP.sub [2] rfl
  have hDc : va_D A [(p_now_log, .inr (2, [.int d_now_log_most, .ref p_now_log_cells, .int d_now_log_many]))] := hD.sub [2] (by decide) rfl
  have hFc := va_free (wc := [(p_now_log, .inr (2, [.int d_now_log_most, .ref p_now_log_cells, .int d_now_log_many]))]) hD hS hA [2] rfl
  refine va_callv (va_runV (As := []) (rest := []) ⟨hx, hb, hml, hown, hts⟩ (c_X2_empty l dC dI cI cZ H.size p_now_log_cells p_now_log d_now_log_most d_now_log_many (f_X2_empty d_now_log_many) rfl) (cwV 0 hts gX5_forget_X2_empty rfl rfl rfl (by decide +kernel) ⟨Nat.le_of_ble_eq_true rfl, Nat.le_of_ble_eq_true rfl⟩) ⟨fun a U g mk q => ⟨q.1, PC.mv q.2⟩, va_recv hK hP (ci := 2) (q0 := 2) rfl rfl, fun U hU hW => ⟨rfl, PC.of hU hW hPc hK hDc hN⟩⟩ rfl rfl hl.1 rfl (lv_room (Nat.le_of_ble_eq_true rfl)) dX5_forget_18 ⟨Nat.zero_le _, Nat.zero_le _⟩) hS (fun q _ h => hFc q h) hFc (fun u t H1 locs ht hvm hw hB hz1 hk1 hS => ?_)
  obtain ⟨hP1, hD1⟩ := hB
  rw [ht] at hP1
  obtain ⟨hP, hD⟩ := va_join (wr := [(p_this, .inr (5, [.ref p_text, .ref p_reader, .ref p_told, .ref p_draft, .ref p_now, .ref p_imageZero, .ref p_imageOne, .ref p_slots, .ref p_placesOf, .int d_keptImages, .long d_traced])), (p_now, .inr (0, [.ref p_now_mounts, .ref p_now_lendings, .ref p_now_log, .ref p_now_undos]))]) (w1 := [(p_now_log, .inr (2, [.int d_now_log_most, .ref p_now_log_cells, .int (f_X2_empty d_now_log_many)]))]) hP hD [2] [0, 1] rfl rfl (by decide) (by decide) hk1 hFc hP1 hD1
  have hP : va_P (dC, dI) vwCl [(p_this, .inr (5, [.ref p_text, .ref p_reader, .ref p_told, .ref p_draft, .ref p_now, .ref p_imageZero, .ref p_imageOne, .ref p_slots, .ref p_placesOf, .int d_keptImages, .long d_traced])), (p_now, .inr (0, [.ref p_now_mounts, .ref p_now_lendings, .ref p_now_log, .ref p_now_undos])), (p_now_log, .inr (2, [.int d_now_log_most, .ref p_now_log_cells, .int (f_X2_empty d_now_log_many)]))] H1 := hP.sub [0, 1, 2] rfl
  have hD : va_D A [(p_this, .inr (5, [.ref p_text, .ref p_reader, .ref p_told, .ref p_draft, .ref p_now, .ref p_imageZero, .ref p_imageOne, .ref p_slots, .ref p_placesOf, .int d_keptImages, .long d_traced])), (p_now, .inr (0, [.ref p_now_mounts, .ref p_now_lendings, .ref p_now_log, .ref p_now_undos])), (p_now_log, .inr (2, [.int d_now_log_most, .ref p_now_log_cells, .int (f_X2_empty d_now_log_many)]))] := hD.sub [0, 1, 2] (by decide) rfl
  clear hPc hDc hFc hk1 hz1 hP1 hD1 ht hvm
  generalize H1 = H at hP hS ⊢
  refine lv_iload_n hx hb dX5_forget_21 rfl (lv_at hl 0 rfl) ?_
  have hrun := hrun
  subst hrun
  rw [hQ]
  exact W.iret (v := d_now_log_many) hx hb hr (fun t ht hW => ⟨⟨d_now_log_many, (), rfl, rfl, by rw [ht]; exact hP, hD⟩, hS.F ht⟩) hS.2.2 dX5_forget_22
-- SkyListeners.sky
def f_X5_sky_J50 (K13 : Int32 → Int32 → Option (Int32)) (x1 : Int32) (x3 : Int32) (d_now_log_many : Int32) (d_now_log_cells : Nat → Int32) (d_now_mounts_many : Int32) (d_now_mounts_cells : Nat → Int32) (x2 : Int32) : Option (Int32) := (K13 x2 (x3 + 1))
def f_X5_sky_L13 (x1 : Int32) (d_now_log_many : Int32) (d_now_log_cells : Nat → Int32) (d_now_mounts_many : Int32) (d_now_mounts_cells : Nat → Int32) : Nat → Int32 → Int32 → Option (Int32)
  | 0, _, _ => none
  | n9 + 1, x2, x3 => (if 8 ≤ x3 then (some x2) else ((f_X0_isHeardElsewhere d_now_log_many d_now_log_cells d_now_mounts_many d_now_mounts_cells x1 x3).bind fun q25 => (if q25 = 0 then ((f_X0_hoursLogged d_now_log_many d_now_log_cells d_now_mounts_many d_now_mounts_cells x1 x3 0).bind fun q38 => (if q38 = 0 then (f_X5_sky_J50 (f_X5_sky_L13  x1 d_now_log_many d_now_log_cells d_now_mounts_many d_now_mounts_cells n9) x1 x3 d_now_log_many d_now_log_cells d_now_mounts_many d_now_mounts_cells (x2 ||| (1 <<< (x3 &&& 31)))) else (f_X5_sky_J50 (f_X5_sky_L13  x1 d_now_log_many d_now_log_cells d_now_mounts_many d_now_mounts_cells n9) x1 x3 d_now_log_many d_now_log_cells d_now_mounts_many d_now_mounts_cells x2))) else (f_X5_sky_J50 (f_X5_sky_L13  x1 d_now_log_many d_now_log_cells d_now_mounts_many d_now_mounts_cells n9) x1 x3 d_now_log_many d_now_log_cells d_now_mounts_many d_now_mounts_cells x2))))
def f_X5_sky (d_now_log_many : Int32) (d_now_log_cells : Nat → Int32) (d_now_mounts_many : Int32) (d_now_mounts_cells : Nat → Int32) (x1 : Int32) : Option (Int32) := (if (f_X5_isNote x1) = 0 then (some (-1)) else (f_X5_sky_L13 x1 d_now_log_many d_now_log_cells d_now_mounts_many d_now_mounts_cells FU 0 0))
set_option maxHeartbeats 4000000 in
set_option maxRecDepth 100000 in
theorem c_X5_sky (l : Launch) (dC : Nat → ClassId) (dI : Nat → Nat → Nat) (cI cZ : ClassId) (sz : Nat) (p_draft p_imageOne p_imageZero p_now p_now_lendings p_now_log p_now_log_cells p_now_mounts p_now_mounts_cells p_now_undos p_placesOf p_reader p_slots p_text p_this p_told : Nat) (d_keptImages : Int32) (d_traced : Int64) (d_now_log_most : Int32) (d_now_log_many : Int32) (d_now_log_cells : Nat → Int32) (d_now_mounts_most : Int32) (d_now_mounts_many : Int32) (d_now_mounts_cells : Nat → Int32) (x1 : Int32) (out : Int32) (hrun : f_X5_sky d_now_log_many d_now_log_cells d_now_mounts_many d_now_mounts_cells x1 = some out) : Met l yX5_sky wsX5_sky ({ frames := 4, cells := 0, slots := 0, locals := 93 } : Room) (va_Pc [.ref p_this, .int x1] (PC dC dI cI cZ sz ([(p_this, .inr (5, [.ref p_text, .ref p_reader, .ref p_told, .ref p_draft, .ref p_now, .ref p_imageZero, .ref p_imageOne, .ref p_slots, .ref p_placesOf, .int d_keptImages, .long d_traced])), (p_now, .inr (0, [.ref p_now_mounts, .ref p_now_lendings, .ref p_now_log, .ref p_now_undos])), (p_now_log, .inr (2, [.int d_now_log_most, .ref p_now_log_cells, .int d_now_log_many])), (p_now_log_cells, .inl (cI, 48, .inl d_now_log_cells)), (p_now_mounts, .inr (2, [.int d_now_mounts_most, .ref p_now_mounts_cells, .int d_now_mounts_many])), (p_now_mounts_cells, .inl (cI, 48, .inl d_now_mounts_cells))] : va_W))) (va_Qi (fun r (_ : Unit) => r = out) (fun _ t => va_P (dC, dI) vwCl [(p_this, .inr (5, [.ref p_text, .ref p_reader, .ref p_told, .ref p_draft, .ref p_now, .ref p_imageZero, .ref p_imageOne, .ref p_slots, .ref p_placesOf, .int d_keptImages, .long d_traced])), (p_now, .inr (0, [.ref p_now_mounts, .ref p_now_lendings, .ref p_now_log, .ref p_now_undos])), (p_now_log, .inr (2, [.int d_now_log_most, .ref p_now_log_cells, .int d_now_log_many])), (p_now_log_cells, .inl (cI, 48, .inl d_now_log_cells)), (p_now_mounts, .inr (2, [.int d_now_mounts_most, .ref p_now_mounts_cells, .int d_now_mounts_many])), (p_now_mounts_cells, .inl (cI, 48, .inl d_now_mounts_cells))] t.heap ∧ va_D (va_A ([(p_this, .inr (5, [.ref p_text, .ref p_reader, .ref p_told, .ref p_draft, .ref p_now, .ref p_imageZero, .ref p_imageOne, .ref p_slots, .ref p_placesOf, .int d_keptImages, .long d_traced])), (p_now, .inr (0, [.ref p_now_mounts, .ref p_now_lendings, .ref p_now_log, .ref p_now_undos])), (p_now_log, .inr (2, [.int d_now_log_most, .ref p_now_log_cells, .int d_now_log_many])), (p_now_log_cells, .inl (cI, 48, .inl d_now_log_cells)), (p_now_mounts, .inr (2, [.int d_now_mounts_most, .ref p_now_mounts_cells, .int d_now_mounts_many])), (p_now_mounts_cells, .inl (cI, 48, .inl d_now_mounts_cells))] : va_W) sz) [(p_this, .inr (5, [.ref p_text, .ref p_reader, .ref p_told, .ref p_draft, .ref p_now, .ref p_imageZero, .ref p_imageOne, .ref p_slots, .ref p_placesOf, .int d_keptImages, .long d_traced])), (p_now, .inr (0, [.ref p_now_mounts, .ref p_now_lendings, .ref p_now_log, .ref p_now_undos])), (p_now_log, .inr (2, [.int d_now_log_most, .ref p_now_log_cells, .int d_now_log_many])), (p_now_log_cells, .inl (cI, 48, .inl d_now_log_cells)), (p_now_mounts, .inr (2, [.int d_now_mounts_most, .ref p_now_mounts_cells, .int d_now_mounts_many])), (p_now_mounts_cells, .inl (cI, 48, .inl d_now_mounts_cells))]) (va_A ([(p_this, .inr (5, [.ref p_text, .ref p_reader, .ref p_told, .ref p_draft, .ref p_now, .ref p_imageZero, .ref p_imageOne, .ref p_slots, .ref p_placesOf, .int d_keptImages, .long d_traced])), (p_now, .inr (0, [.ref p_now_mounts, .ref p_now_lendings, .ref p_now_log, .ref p_now_undos])), (p_now_log, .inr (2, [.int d_now_log_most, .ref p_now_log_cells, .int d_now_log_many])), (p_now_log_cells, .inl (cI, 48, .inl d_now_log_cells)), (p_now_mounts, .inr (2, [.int d_now_mounts_most, .ref p_now_mounts_cells, .int d_now_mounts_many])), (p_now_mounts_cells, .inl (cI, 48, .inl d_now_mounts_cells))] : va_W) sz)) 0 0 (va_A ([(p_this, .inr (5, [.ref p_text, .ref p_reader, .ref p_told, .ref p_draft, .ref p_now, .ref p_imageZero, .ref p_imageOne, .ref p_slots, .ref p_placesOf, .int d_keptImages, .long d_traced])), (p_now, .inr (0, [.ref p_now_mounts, .ref p_now_lendings, .ref p_now_log, .ref p_now_undos])), (p_now_log, .inr (2, [.int d_now_log_most, .ref p_now_log_cells, .int d_now_log_many])), (p_now_log_cells, .inl (cI, 48, .inl d_now_log_cells)), (p_now_mounts, .inr (2, [.int d_now_mounts_most, .ref p_now_mounts_cells, .int d_now_mounts_many])), (p_now_mounts_cells, .inl (cI, 48, .inl d_now_mounts_cells))] : va_W) sz) := by
  refine Met.ofW (cc := cX5_sky) (maxL := 4) (ret := (some .int)) (by decide) rfl ?_
  intro p e s m args below meth c s₁ B hml hv
  obtain ⟨rfl, hsz, hP, hK, hD0, hN⟩ := hv
  have hx := B.exec
  have hb := B.bytes
  have hr := B.returns
  have hts := atoms_spec (ws := wsX5_sky) B.pre
  have hown : s.vm.findClass RX5 = some m.cls := findClass_of_methodNamed B.named
  have hlocks := B.notSynchronized
  subst hsz
  have hD := hD0.self (sz := s.heap.size)
  generalize hAe : va_A ([(p_this, .inr (5, [.ref p_text, .ref p_reader, .ref p_told, .ref p_draft, .ref p_now, .ref p_imageZero, .ref p_imageOne, .ref p_slots, .ref p_placesOf, .int d_keptImages, .long d_traced])), (p_now, .inr (0, [.ref p_now_mounts, .ref p_now_lendings, .ref p_now_log, .ref p_now_undos])), (p_now_log, .inr (2, [.int d_now_log_most, .ref p_now_log_cells, .int d_now_log_many])), (p_now_log_cells, .inl (cI, 48, .inl d_now_log_cells)), (p_now_mounts, .inr (2, [.int d_now_mounts_most, .ref p_now_mounts_cells, .int d_now_mounts_many])), (p_now_mounts_cells, .inl (cI, 48, .inl d_now_mounts_cells))] : va_W) s.heap.size = A at hD ⊢
  have hA : ∀ q : Nat, s.heap.size ≤ q → A q := fun q h => by rw [← hAe]; exact Or.inr h
  have hS : va_S A s.heap s.heap [] := va_S.rf
  refine W_abs (fun Q hQ => ?_)
  have hl := lv_entry ([.ref p_this, .int x1]) (n := 4) (Nat.le_of_ble_eq_true rfl)
  rw [lg_entry_eq]
  generalize (lg_sl ([.ref p_this, .int x1]) ++ List.replicate (4 - (lg_sl ([.ref p_this, .int x1])).length) Slot.unset).toArray = ls at hl ⊢
  have hl : lv_has ls 4 [(0, .ref p_this), (1, .int x1)] := hl
  rw [f_X5_sky] at hrun
  refine W_start (ws := [(p_this, .inr (5, [.ref p_text, .ref p_reader, .ref p_told, .ref p_draft, .ref p_now, .ref p_imageZero, .ref p_imageOne, .ref p_slots, .ref p_placesOf, .int d_keptImages, .long d_traced])), (p_now, .inr (0, [.ref p_now_mounts, .ref p_now_lendings, .ref p_now_log, .ref p_now_undos])), (p_now_log, .inr (2, [.int d_now_log_most, .ref p_now_log_cells, .int d_now_log_many])), (p_now_log_cells, .inl (cI, 48, .inl d_now_log_cells)), (p_now_mounts, .inr (2, [.int d_now_mounts_most, .ref p_now_mounts_cells, .int d_now_mounts_many])), (p_now_mounts_cells, .inl (cI, 48, .inl d_now_mounts_cells))]) hP hS (fun H locs hP hS => ?_)
  have iwX5 : ∀ w ∈ wsX50, w ∈ wsX5_sky := by decide +kernel
  refine lv_iload_n hx hb dX5_sky_0 rfl (lv_at hl 1 rfl) ?_
  have hPc : va_P (dC, dI) vwCl [] H := hP.sub [] rfl
  have hDc : va_D A [] := hD.sub [] (by decide) rfl
  have hFc := va_free (wc := []) hD hS hA [] rfl
  refine va_calli (va_runS (As := [.int x1]) (rest := []) ⟨hx, hb, hml, hown, hts⟩ (c_X5_isNote l dC dI cI cZ H.size x1 (f_X5_isNote x1) rfl) (va_cwS 1 hts gX5_sky_X5_isNote rfl rfl rfl (by decide +kernel) ⟨Nat.le_of_ble_eq_true rfl, Nat.le_of_ble_eq_true rfl⟩) ⟨fun a U g mk q => ⟨q.1, PC.mv q.2⟩, fun U hU hW => ⟨rfl, PC.of hU hW hPc hK hDc hN⟩⟩ rfl rfl hl.1 rfl (lv_room (Nat.le_of_ble_eq_true rfl)) dX5_sky_1 ⟨Nat.zero_le _, Nat.zero_le _⟩) hS (fun q _ h => hFc q h) hFc (fun r_1 u t H1 locs ht hvm hw hB hz1 hk1 hS => ?_)
  obtain ⟨hP1, hD1⟩ := hB
  try dsimp only at hw
  rw [hw]
  rw [ht] at hP1
  have hP : va_P (dC, dI) vwCl [(p_this, .inr (5, [.ref p_text, .ref p_reader, .ref p_told, .ref p_draft, .ref p_now, .ref p_imageZero, .ref p_imageOne, .ref p_slots, .ref p_placesOf, .int d_keptImages, .long d_traced])), (p_now, .inr (0, [.ref p_now_mounts, .ref p_now_lendings, .ref p_now_log, .ref p_now_undos])), (p_now_log, .inr (2, [.int d_now_log_most, .ref p_now_log_cells, .int d_now_log_many])), (p_now_log_cells, .inl (cI, 48, .inl d_now_log_cells)), (p_now_mounts, .inr (2, [.int d_now_mounts_most, .ref p_now_mounts_cells, .int d_now_mounts_many])), (p_now_mounts_cells, .inl (cI, 48, .inl d_now_mounts_cells))] H1 := join_ro hP hD [] rfl hk1 hP1
  clear hPc hDc hFc hk1 hz1 hP1 hD1 ht hvm
  generalize H1 = H at hP hS ⊢
  refine lv_if_ne (tgt := 9) hx hb dX5_sky_4 (by decide) (fun c_4 => ?_) (fun c_4 => ?_)
  · rw [if_neg c_4] at hrun
    refine lv_iconst (v := 0) hx hb dX5_sky_9 (by decide) ?_
    refine lv_istore_n (lv' := [(2, .int 0), (0, .ref p_this), (1, .int x1)]) hx hb dX5_sky_10 rfl hl (by decide) rfl (fun ls hl => ?_)
    refine lv_iconst (v := 0) hx hb dX5_sky_11 (by decide) ?_
    refine lv_istore_n (lv' := [(3, .int 0), (2, .int 0), (0, .ref p_this), (1, .int x1)]) hx hb dX5_sky_12 rfl hl (by decide) rfl (fun ls hl => ?_)
    have L13 : ∀ (n9_13 : Nat) (x2_13 : Int32) (x3_13 : Int32) (H : Heap) (locs : List Loc), va_P (dC, dI) vwCl [(p_this, .inr (5, [.ref p_text, .ref p_reader, .ref p_told, .ref p_draft, .ref p_now, .ref p_imageZero, .ref p_imageOne, .ref p_slots, .ref p_placesOf, .int d_keptImages, .long d_traced])), (p_now, .inr (0, [.ref p_now_mounts, .ref p_now_lendings, .ref p_now_log, .ref p_now_undos])), (p_now_log, .inr (2, [.int d_now_log_most, .ref p_now_log_cells, .int d_now_log_many])), (p_now_log_cells, .inl (cI, 48, .inl d_now_log_cells)), (p_now_mounts, .inr (2, [.int d_now_mounts_most, .ref p_now_mounts_cells, .int d_now_mounts_many])), (p_now_mounts_cells, .inl (cI, 48, .inl d_now_mounts_cells))] H → va_D A [(p_this, .inr (5, [.ref p_text, .ref p_reader, .ref p_told, .ref p_draft, .ref p_now, .ref p_imageZero, .ref p_imageOne, .ref p_slots, .ref p_placesOf, .int d_keptImages, .long d_traced])), (p_now, .inr (0, [.ref p_now_mounts, .ref p_now_lendings, .ref p_now_log, .ref p_now_undos])), (p_now_log, .inr (2, [.int d_now_log_most, .ref p_now_log_cells, .int d_now_log_many])), (p_now_log_cells, .inl (cI, 48, .inl d_now_log_cells)), (p_now_mounts, .inr (2, [.int d_now_mounts_most, .ref p_now_mounts_cells, .int d_now_mounts_many])), (p_now_mounts_cells, .inl (cI, 48, .inl d_now_mounts_cells))] → va_S A s.heap H locs → ∀ ls : Array Slot, lv_has ls 4 [(0, .ref p_this), (1, .int x1), (2, .int x2_13), (3, .int x3_13)] → f_X5_sky_L13 x1 d_now_log_many d_now_log_cells d_now_mounts_many d_now_mounts_cells n9_13 x2_13 x3_13 = some out → W p l e ({ frames := 4, cells := 0, slots := 0, locals := 93 } : Room) s m ([.ref p_this, .int x1] : List Value).toArray below meth c H locs 0 0 Q (F0 m 13 ls []) := by
      intro n9_13
      induction n9_13 with
      | zero =>
        intro x2_13 x3_13 H locs hP hD hS ls hl hrun
        rw [f_X5_sky_L13] at hrun
        cases hrun
      | succ n9_13 ih13 =>
        intro x2_13 x3_13 H locs hP hD hS ls hl hrun
        rw [f_X5_sky_L13] at hrun
        refine lv_iload_n hx hb dX5_sky_13 rfl (lv_at hl 3 rfl) ?_
        refine lv_bipush (v := 8) hx hb dX5_sky_14 (by decide) ?_
        refine lv_icmp_ge (tgt := 56) hx hb dX5_sky_16 (by decide) (fun c_16 => ?_) (fun c_16 => ?_)
        · rw [if_pos c_16] at hrun
          refine lv_iload_n hx hb dX5_sky_56 rfl (lv_at hl 2 rfl) ?_
          have hrun := Option.some.inj hrun
          subst hrun
          rw [hQ]
          exact W.iret (v := x2_13) hx hb hr (fun t ht hW => ⟨⟨x2_13, (), rfl, rfl, by rw [ht]; exact hP, hD⟩, hS.F ht⟩) hS.2.2 dX5_sky_57
        · rw [if_neg c_16] at hrun
          refine lv_aload_n hx hb dX5_sky_19 rfl (lv_at hl 0 rfl) ?_
          refine va_get (D := (dC, dI)) (ci := 5) (v := .ref p_now) (C := RX5) (T := TX5) (N := 11) hx hb hts iwX5 hown hK hP 0 rfl rfl 4 (by decide) (hts (.fieldLink RX5 36 "SkyListeners" "now" "LSkyListeners$Now;") (by decide +kernel)) (fun _ h9 => h9) rfl dX5_sky_20 ?_
          refine lv_iload_n hx hb dX5_sky_23 rfl (lv_at hl 1 rfl) ?_
          refine lv_iload_n hx hb dX5_sky_24 rfl (lv_at hl 3 rfl) ?_
          obtain ⟨q25, hq25, hrun⟩ := bind_out hrun
          have hPc : va_P (dC, dI) vwCl [(p_now, .inr (0, [.ref p_now_mounts, .ref p_now_lendings, .ref p_now_log, .ref p_now_undos])), (p_now_log, .inr (2, [.int d_now_log_most, .ref p_now_log_cells, .int d_now_log_many])), (p_now_log_cells, .inl (cI, 48, .inl d_now_log_cells)), (p_now_mounts, .inr (2, [.int d_now_mounts_most, .ref p_now_mounts_cells, .int d_now_mounts_many])), (p_now_mounts_cells, .inl (cI, 48, .inl d_now_mounts_cells))] H := hP.sub [1, 2, 3, 4, 5] rfl
          have hDc : va_D A [(p_now, .inr (0, [.ref p_now_mounts, .ref p_now_lendings, .ref p_now_log, .ref p_now_undos])), (p_now_log, .inr (2, [.int d_now_log_most, .ref p_now_log_cells, .int d_now_log_many])), (p_now_log_cells, .inl (cI, 48, .inl d_now_log_cells)), (p_now_mounts, .inr (2, [.int d_now_mounts_most, .ref p_now_mounts_cells, .int d_now_mounts_many])), (p_now_mounts_cells, .inl (cI, 48, .inl d_now_mounts_cells))] := hD.sub [1, 2, 3, 4, 5] (by decide) rfl
          have hFc := va_free (wc := [(p_now, .inr (0, [.ref p_now_mounts, .ref p_now_lendings, .ref p_now_log, .ref p_now_undos])), (p_now_log, .inr (2, [.int d_now_log_most, .ref p_now_log_cells, .int d_now_log_many])), (p_now_log_cells, .inl (cI, 48, .inl d_now_log_cells)), (p_now_mounts, .inr (2, [.int d_now_mounts_most, .ref p_now_mounts_cells, .int d_now_mounts_many])), (p_now_mounts_cells, .inl (cI, 48, .inl d_now_mounts_cells))]) hD hS hA [1, 2, 3, 4, 5] rfl
          refine va_calli (va_runV (As := [.int x1, .int x3_13]) (rest := []) ⟨hx, hb, hml, hown, hts⟩ (c_X0_isHeardElsewhere l dC dI cI cZ H.size p_now_lendings p_now_log p_now_log_cells p_now_mounts p_now_mounts_cells p_now p_now_undos d_now_log_most d_now_log_many d_now_log_cells d_now_mounts_most d_now_mounts_many d_now_mounts_cells x1 x3_13 q25 hq25) (cwV 2 hts gX5_sky_X0_isHeardElsewhere rfl rfl rfl (by decide +kernel) ⟨Nat.le_of_ble_eq_true rfl, Nat.le_of_ble_eq_true rfl⟩) ⟨fun a U g mk q => ⟨q.1, PC.mv q.2⟩, va_recv hK hP (ci := 0) (q0 := 1) rfl rfl, fun U hU hW => ⟨rfl, PC.of hU hW hPc hK hDc hN⟩⟩ rfl rfl hl.1 rfl (lv_room (Nat.le_of_ble_eq_true rfl)) dX5_sky_25 ⟨Nat.zero_le _, Nat.zero_le _⟩) hS (fun q _ h => hFc q h) hFc (fun r_25 u t H1 locs ht hvm hw hB hz1 hk1 hS => ?_)
          obtain ⟨hP1, hD1⟩ := hB
          try dsimp only at hw
          rw [hw]
          rw [ht] at hP1
          have hP : va_P (dC, dI) vwCl [(p_this, .inr (5, [.ref p_text, .ref p_reader, .ref p_told, .ref p_draft, .ref p_now, .ref p_imageZero, .ref p_imageOne, .ref p_slots, .ref p_placesOf, .int d_keptImages, .long d_traced])), (p_now, .inr (0, [.ref p_now_mounts, .ref p_now_lendings, .ref p_now_log, .ref p_now_undos])), (p_now_log, .inr (2, [.int d_now_log_most, .ref p_now_log_cells, .int d_now_log_many])), (p_now_log_cells, .inl (cI, 48, .inl d_now_log_cells)), (p_now_mounts, .inr (2, [.int d_now_mounts_most, .ref p_now_mounts_cells, .int d_now_mounts_many])), (p_now_mounts_cells, .inl (cI, 48, .inl d_now_mounts_cells))] H1 := join_ro hP hD [1, 2, 3, 4, 5] rfl hk1 hP1
          clear hPc hDc hFc hk1 hz1 hP1 hD1 ht hvm
          generalize H1 = H at hP hS ⊢
          have J50 : ∀ (x2_50 : Int32) (H : Heap) (locs : List Loc), va_P (dC, dI) vwCl [(p_this, .inr (5, [.ref p_text, .ref p_reader, .ref p_told, .ref p_draft, .ref p_now, .ref p_imageZero, .ref p_imageOne, .ref p_slots, .ref p_placesOf, .int d_keptImages, .long d_traced])), (p_now, .inr (0, [.ref p_now_mounts, .ref p_now_lendings, .ref p_now_log, .ref p_now_undos])), (p_now_log, .inr (2, [.int d_now_log_most, .ref p_now_log_cells, .int d_now_log_many])), (p_now_log_cells, .inl (cI, 48, .inl d_now_log_cells)), (p_now_mounts, .inr (2, [.int d_now_mounts_most, .ref p_now_mounts_cells, .int d_now_mounts_many])), (p_now_mounts_cells, .inl (cI, 48, .inl d_now_mounts_cells))] H → va_D A [(p_this, .inr (5, [.ref p_text, .ref p_reader, .ref p_told, .ref p_draft, .ref p_now, .ref p_imageZero, .ref p_imageOne, .ref p_slots, .ref p_placesOf, .int d_keptImages, .long d_traced])), (p_now, .inr (0, [.ref p_now_mounts, .ref p_now_lendings, .ref p_now_log, .ref p_now_undos])), (p_now_log, .inr (2, [.int d_now_log_most, .ref p_now_log_cells, .int d_now_log_many])), (p_now_log_cells, .inl (cI, 48, .inl d_now_log_cells)), (p_now_mounts, .inr (2, [.int d_now_mounts_most, .ref p_now_mounts_cells, .int d_now_mounts_many])), (p_now_mounts_cells, .inl (cI, 48, .inl d_now_mounts_cells))] → va_S A s.heap H locs → ∀ ls : Array Slot, lv_has ls 4 [(0, .ref p_this), (1, .int x1), (2, .int x2_50), (3, .int x3_13)] → f_X5_sky_J50 (f_X5_sky_L13 x1 d_now_log_many d_now_log_cells d_now_mounts_many d_now_mounts_cells n9_13) x1 x3_13 d_now_log_many d_now_log_cells d_now_mounts_many d_now_mounts_cells x2_50 = some out → W p l e ({ frames := 4, cells := 0, slots := 0, locals := 93 } : Room) s m ([.ref p_this, .int x1] : List Value).toArray below meth c H locs 0 0 Q (F0 m 50 ls []) := by
            intro x2_50 H locs hP hD hS ls hl hrun
            rw [f_X5_sky_J50] at hrun
            refine lv_iinc (v := x3_13 + 1) (lv' := [(3, .int (x3_13 + 1)), (0, .ref p_this), (1, .int x1), (2, .int x2_50)]) hx hb dX5_sky_50 hl (k := 3) rfl rfl (by decide) rfl (fun ls hl => ?_)
            refine lv_goto (tgt := 13) hx hb dX5_sky_53 (by decide) ?_
            exact ih13 x2_50 (x3_13 + 1) H locs hP hD hS ls (lv_sub hl [1, 2, 3, 0] rfl) hrun
          refine lv_if_ne (tgt := 50) hx hb dX5_sky_28 (by decide) (fun c_28 => ?_) (fun c_28 => ?_)
          · rw [if_neg c_28] at hrun
            exact J50 x2_13 H locs hP hD hS ls hl hrun
          · rw [if_pos c_28] at hrun
            refine lv_aload_n hx hb dX5_sky_31 rfl (lv_at hl 0 rfl) ?_
            refine va_get (D := (dC, dI)) (ci := 5) (v := .ref p_now) (C := RX5) (T := TX5) (N := 11) hx hb hts iwX5 hown hK hP 0 rfl rfl 4 (by decide) (hts (.fieldLink RX5 36 "SkyListeners" "now" "LSkyListeners$Now;") (by decide +kernel)) (fun _ h9 => h9) rfl dX5_sky_32 ?_
            refine lv_iload_n hx hb dX5_sky_35 rfl (lv_at hl 1 rfl) ?_
            refine lv_iload_n hx hb dX5_sky_36 rfl (lv_at hl 3 rfl) ?_
            refine lv_iconst (v := 0) hx hb dX5_sky_37 (by decide) ?_
            obtain ⟨q38, hq38, hrun⟩ := bind_out hrun
            have hPc : va_P (dC, dI) vwCl [(p_now, .inr (0, [.ref p_now_mounts, .ref p_now_lendings, .ref p_now_log, .ref p_now_undos])), (p_now_log, .inr (2, [.int d_now_log_most, .ref p_now_log_cells, .int d_now_log_many])), (p_now_log_cells, .inl (cI, 48, .inl d_now_log_cells)), (p_now_mounts, .inr (2, [.int d_now_mounts_most, .ref p_now_mounts_cells, .int d_now_mounts_many])), (p_now_mounts_cells, .inl (cI, 48, .inl d_now_mounts_cells))] H := hP.sub [1, 2, 3, 4, 5] rfl
            have hDc : va_D A [(p_now, .inr (0, [.ref p_now_mounts, .ref p_now_lendings, .ref p_now_log, .ref p_now_undos])), (p_now_log, .inr (2, [.int d_now_log_most, .ref p_now_log_cells, .int d_now_log_many])), (p_now_log_cells, .inl (cI, 48, .inl d_now_log_cells)), (p_now_mounts, .inr (2, [.int d_now_mounts_most, .ref p_now_mounts_cells, .int d_now_mounts_many])), (p_now_mounts_cells, .inl (cI, 48, .inl d_now_mounts_cells))] := hD.sub [1, 2, 3, 4, 5] (by decide) rfl
            have hFc := va_free (wc := [(p_now, .inr (0, [.ref p_now_mounts, .ref p_now_lendings, .ref p_now_log, .ref p_now_undos])), (p_now_log, .inr (2, [.int d_now_log_most, .ref p_now_log_cells, .int d_now_log_many])), (p_now_log_cells, .inl (cI, 48, .inl d_now_log_cells)), (p_now_mounts, .inr (2, [.int d_now_mounts_most, .ref p_now_mounts_cells, .int d_now_mounts_many])), (p_now_mounts_cells, .inl (cI, 48, .inl d_now_mounts_cells))]) hD hS hA [1, 2, 3, 4, 5] rfl
            refine va_calli (va_runV (As := [.int x1, .int x3_13, .int 0]) (rest := []) ⟨hx, hb, hml, hown, hts⟩ (c_X0_hoursLogged l dC dI cI cZ H.size p_now_lendings p_now_log p_now_log_cells p_now_mounts p_now_mounts_cells p_now p_now_undos d_now_log_most d_now_log_many d_now_log_cells d_now_mounts_most d_now_mounts_many d_now_mounts_cells x1 x3_13 0 q38 hq38) (cwV 3 hts gX5_sky_X0_hoursLogged rfl rfl rfl (by decide +kernel) ⟨Nat.le_of_ble_eq_true rfl, Nat.le_of_ble_eq_true rfl⟩) ⟨fun a U g mk q => ⟨q.1, PC.mv q.2⟩, va_recv hK hP (ci := 0) (q0 := 1) rfl rfl, fun U hU hW => ⟨rfl, PC.of hU hW hPc hK hDc hN⟩⟩ rfl rfl hl.1 rfl (lv_room (Nat.le_of_ble_eq_true rfl)) dX5_sky_38 ⟨Nat.zero_le _, Nat.zero_le _⟩) hS (fun q _ h => hFc q h) hFc (fun r_38 u t H1 locs ht hvm hw hB hz1 hk1 hS => ?_)
            obtain ⟨hP1, hD1⟩ := hB
            try dsimp only at hw
            rw [hw]
            rw [ht] at hP1
            have hP : va_P (dC, dI) vwCl [(p_this, .inr (5, [.ref p_text, .ref p_reader, .ref p_told, .ref p_draft, .ref p_now, .ref p_imageZero, .ref p_imageOne, .ref p_slots, .ref p_placesOf, .int d_keptImages, .long d_traced])), (p_now, .inr (0, [.ref p_now_mounts, .ref p_now_lendings, .ref p_now_log, .ref p_now_undos])), (p_now_log, .inr (2, [.int d_now_log_most, .ref p_now_log_cells, .int d_now_log_many])), (p_now_log_cells, .inl (cI, 48, .inl d_now_log_cells)), (p_now_mounts, .inr (2, [.int d_now_mounts_most, .ref p_now_mounts_cells, .int d_now_mounts_many])), (p_now_mounts_cells, .inl (cI, 48, .inl d_now_mounts_cells))] H1 := join_ro hP hD [1, 2, 3, 4, 5] rfl hk1 hP1
            clear hPc hDc hFc hk1 hz1 hP1 hD1 ht hvm
            generalize H1 = H at hP hS ⊢
            refine lv_if_ne (tgt := 50) hx hb dX5_sky_41 (by decide) (fun c_41 => ?_) (fun c_41 => ?_)
            · rw [if_neg c_41] at hrun
              exact J50 x2_13 H locs hP hD hS ls hl hrun
            · rw [if_pos c_41] at hrun
              refine lv_iload_n hx hb dX5_sky_44 rfl (lv_at hl 2 rfl) ?_
              refine lv_iconst (v := 1) hx hb dX5_sky_45 (by decide) ?_
              refine lv_iload_n hx hb dX5_sky_46 rfl (lv_at hl 3 rfl) ?_
              refine lv_ishl hx hb dX5_sky_47 ?_
              refine lv_ior hx hb dX5_sky_48 ?_
              refine lv_istore_n (lv' := [(2, .int (x2_13 ||| (1 <<< (x3_13 &&& 31)))), (0, .ref p_this), (1, .int x1), (3, .int x3_13)]) hx hb dX5_sky_49 rfl hl (by decide) rfl (fun ls hl => ?_)
              exact J50 (x2_13 ||| (1 <<< (x3_13 &&& 31))) H locs hP hD hS ls (lv_sub hl [1, 2, 0, 3] rfl) hrun
    exact L13 FU 0 0 H locs hP hD hS ls (lv_sub hl [2, 3, 1, 0] rfl) hrun
  · rw [if_pos c_4] at hrun
    refine lv_iconst (v := (-1)) hx hb dX5_sky_7 (by decide) ?_
    have hrun := Option.some.inj hrun
    subst hrun
    rw [hQ]
    exact W.iret (v := (-1)) hx hb hr (fun t ht hW => ⟨⟨(-1), (), rfl, rfl, by rw [ht]; exact hP, hD⟩, hS.F ht⟩) hS.2.2 dX5_sky_8
-- SkyListeners.ours
def f_X5_ours_X104 (x2 : Int32) (x3 : Int32) (x4 : Int32) (x5 : Int32) : Option (Int32) := (if x2 = 0 then (some x3) else (if x2 = 1 then (some x4) else (some x5)))
def f_X5_ours_X98 (K31 : Int32 → Int32 → Int32 → Int32 → Option (Int32)) (x1 : Int32) (x2 : Int32) (x6 : Int32) (d_now_log_many : Int32) (d_now_log_cells : Nat → Int32) (x3 : Int32) (x4 : Int32) (x5 : Int32) : Option (Int32) := (K31 x3 x4 x5 (x6 + 1))
def f_X5_ours_J92 (K41 : Int32 → Int32 → Int32 → Int32 → Option (Int32)) (x1 : Int32) (x2 : Int32) (x6 : Int32) (x7 : Int32) (d_now_log_many : Int32) (d_now_log_cells : Nat → Int32) (x3 : Int32) (x4 : Int32) (x5 : Int32) : Option (Int32) := (K41 x3 x4 x5 (x7 + 1))
def f_X5_ours_J87 (K92 : Int32 → Int32 → Int32 → Option (Int32)) (x1 : Int32) (x2 : Int32) (x3 : Int32) (x4 : Int32) (x6 : Int32) (x7 : Int32) (d_now_log_many : Int32) (d_now_log_cells : Nat → Int32) (t0 : Int32) : Option (Int32) := (K92 (x3 + 1) x4 t0)
def f_X5_ours_J74 (K92 : Int32 → Int32 → Int32 → Option (Int32)) (x1 : Int32) (x2 : Int32) (x3 : Int32) (x5 : Int32) (x6 : Int32) (x7 : Int32) (d_now_log_many : Int32) (d_now_log_cells : Nat → Int32) (t0 : Int32) : Option (Int32) := (if x3 = 0 then (f_X5_ours_J87 K92 x1 x2 x3 t0 x6 x7 d_now_log_many d_now_log_cells x7) else (f_X5_ours_J87 K92 x1 x2 x3 t0 x6 x7 d_now_log_many d_now_log_cells x5))
def f_X5_ours_L41 (K98 : Int32 → Int32 → Int32 → Option (Int32)) (x1 : Int32) (x2 : Int32) (x6 : Int32) (d_now_log_many : Int32) (d_now_log_cells : Nat → Int32) : Nat → Int32 → Int32 → Int32 → Int32 → Option (Int32)
  | 0, _, _, _, _ => none
  | n9 + 1, x3, x4, x5, x7 => (if x6 ≤ x7 then (K98 x3 x4 x5) else ((f_X0_fitsLaw d_now_log_many d_now_log_cells x1 x6 x7).bind fun q57 => (if q57 = 0 then (f_X5_ours_J92 (f_X5_ours_L41 K98 x1 x2 x6 d_now_log_many d_now_log_cells n9) x1 x2 x6 x7 d_now_log_many d_now_log_cells x3 x4 x5) else (if x3 = 0 then (f_X5_ours_J74 (f_X5_ours_J92 (f_X5_ours_L41 K98 x1 x2 x6 d_now_log_many d_now_log_cells n9) x1 x2 x6 x7 d_now_log_many d_now_log_cells) x1 x2 x3 x5 x6 x7 d_now_log_many d_now_log_cells x6) else (f_X5_ours_J74 (f_X5_ours_J92 (f_X5_ours_L41 K98 x1 x2 x6 d_now_log_many d_now_log_cells n9) x1 x2 x6 x7 d_now_log_many d_now_log_cells) x1 x2 x3 x5 x6 x7 d_now_log_many d_now_log_cells x4)))))
def f_X5_ours_L31 (K104 : Int32 → Int32 → Int32 → Option (Int32)) (x1 : Int32) (x2 : Int32) (d_now_log_many : Int32) (d_now_log_cells : Nat → Int32) : Nat → Int32 → Int32 → Int32 → Int32 → Option (Int32)
  | 0, _, _, _, _ => none
  | n9 + 1, x3, x4, x5, x6 => (if 12 < x6 then (K104 x3 x4 x5) else (f_X5_ours_L41 (f_X5_ours_X98 (f_X5_ours_L31 K104 x1 x2 d_now_log_many d_now_log_cells n9) x1 x2 x6 d_now_log_many d_now_log_cells) x1 x2 x6 d_now_log_many d_now_log_cells FU x3 x4 x5 0))
def f_X5_ours (d_now_log_many : Int32) (d_now_log_cells : Nat → Int32) (x1 : Int32) (x2 : Int32) : Option (Int32) := (if (f_X5_isNote x1) = 0 then (some (-1)) else (if x2 < 0 then (some (-1)) else (if x2 ≤ 2 then (f_X5_ours_L31 (f_X5_ours_X104 x2) x1 x2 d_now_log_many d_now_log_cells FU 0 (-9) (-9) 1) else (some (-1)))))
set_option maxHeartbeats 4000000 in
set_option maxRecDepth 100000 in
theorem c_X5_ours (l : Launch) (dC : Nat → ClassId) (dI : Nat → Nat → Nat) (cI cZ : ClassId) (sz : Nat) (p_draft p_imageOne p_imageZero p_now p_now_lendings p_now_log p_now_log_cells p_now_mounts p_now_undos p_placesOf p_reader p_slots p_text p_this p_told : Nat) (d_keptImages : Int32) (d_traced : Int64) (d_now_log_most : Int32) (d_now_log_many : Int32) (d_now_log_cells : Nat → Int32) (x1 : Int32) (x2 : Int32) (out : Int32) (hrun : f_X5_ours d_now_log_many d_now_log_cells x1 x2 = some out) : Met l yX5_ours wsX5_ours ({ frames := 4, cells := 0, slots := 0, locals := 92 } : Room) (va_Pc [.ref p_this, .int x1, .int x2] (PC dC dI cI cZ sz ([(p_this, .inr (5, [.ref p_text, .ref p_reader, .ref p_told, .ref p_draft, .ref p_now, .ref p_imageZero, .ref p_imageOne, .ref p_slots, .ref p_placesOf, .int d_keptImages, .long d_traced])), (p_now, .inr (0, [.ref p_now_mounts, .ref p_now_lendings, .ref p_now_log, .ref p_now_undos])), (p_now_log, .inr (2, [.int d_now_log_most, .ref p_now_log_cells, .int d_now_log_many])), (p_now_log_cells, .inl (cI, 48, .inl d_now_log_cells))] : va_W))) (va_Qi (fun r (_ : Unit) => r = out) (fun _ t => va_P (dC, dI) vwCl [(p_this, .inr (5, [.ref p_text, .ref p_reader, .ref p_told, .ref p_draft, .ref p_now, .ref p_imageZero, .ref p_imageOne, .ref p_slots, .ref p_placesOf, .int d_keptImages, .long d_traced])), (p_now, .inr (0, [.ref p_now_mounts, .ref p_now_lendings, .ref p_now_log, .ref p_now_undos])), (p_now_log, .inr (2, [.int d_now_log_most, .ref p_now_log_cells, .int d_now_log_many])), (p_now_log_cells, .inl (cI, 48, .inl d_now_log_cells))] t.heap ∧ va_D (va_A ([(p_this, .inr (5, [.ref p_text, .ref p_reader, .ref p_told, .ref p_draft, .ref p_now, .ref p_imageZero, .ref p_imageOne, .ref p_slots, .ref p_placesOf, .int d_keptImages, .long d_traced])), (p_now, .inr (0, [.ref p_now_mounts, .ref p_now_lendings, .ref p_now_log, .ref p_now_undos])), (p_now_log, .inr (2, [.int d_now_log_most, .ref p_now_log_cells, .int d_now_log_many])), (p_now_log_cells, .inl (cI, 48, .inl d_now_log_cells))] : va_W) sz) [(p_this, .inr (5, [.ref p_text, .ref p_reader, .ref p_told, .ref p_draft, .ref p_now, .ref p_imageZero, .ref p_imageOne, .ref p_slots, .ref p_placesOf, .int d_keptImages, .long d_traced])), (p_now, .inr (0, [.ref p_now_mounts, .ref p_now_lendings, .ref p_now_log, .ref p_now_undos])), (p_now_log, .inr (2, [.int d_now_log_most, .ref p_now_log_cells, .int d_now_log_many])), (p_now_log_cells, .inl (cI, 48, .inl d_now_log_cells))]) (va_A ([(p_this, .inr (5, [.ref p_text, .ref p_reader, .ref p_told, .ref p_draft, .ref p_now, .ref p_imageZero, .ref p_imageOne, .ref p_slots, .ref p_placesOf, .int d_keptImages, .long d_traced])), (p_now, .inr (0, [.ref p_now_mounts, .ref p_now_lendings, .ref p_now_log, .ref p_now_undos])), (p_now_log, .inr (2, [.int d_now_log_most, .ref p_now_log_cells, .int d_now_log_many])), (p_now_log_cells, .inl (cI, 48, .inl d_now_log_cells))] : va_W) sz)) 0 0 (va_A ([(p_this, .inr (5, [.ref p_text, .ref p_reader, .ref p_told, .ref p_draft, .ref p_now, .ref p_imageZero, .ref p_imageOne, .ref p_slots, .ref p_placesOf, .int d_keptImages, .long d_traced])), (p_now, .inr (0, [.ref p_now_mounts, .ref p_now_lendings, .ref p_now_log, .ref p_now_undos])), (p_now_log, .inr (2, [.int d_now_log_most, .ref p_now_log_cells, .int d_now_log_many])), (p_now_log_cells, .inl (cI, 48, .inl d_now_log_cells))] : va_W) sz) := by
  refine Met.ofW (cc := cX5_ours) (maxL := 8) (ret := (some .int)) (by decide) rfl ?_
  intro p e s m args below meth c s₁ B hml hv
  obtain ⟨rfl, hsz, hP, hK, hD0, hN⟩ := hv
  have hx := B.exec
  have hb := B.bytes
  have hr := B.returns
  have hts := atoms_spec (ws := wsX5_ours) B.pre
  have hown : s.vm.findClass RX5 = some m.cls := findClass_of_methodNamed B.named
  have hlocks := B.notSynchronized
  subst hsz
  have hD := hD0.self (sz := s.heap.size)
  generalize hAe : va_A ([(p_this, .inr (5, [.ref p_text, .ref p_reader, .ref p_told, .ref p_draft, .ref p_now, .ref p_imageZero, .ref p_imageOne, .ref p_slots, .ref p_placesOf, .int d_keptImages, .long d_traced])), (p_now, .inr (0, [.ref p_now_mounts, .ref p_now_lendings, .ref p_now_log, .ref p_now_undos])), (p_now_log, .inr (2, [.int d_now_log_most, .ref p_now_log_cells, .int d_now_log_many])), (p_now_log_cells, .inl (cI, 48, .inl d_now_log_cells))] : va_W) s.heap.size = A at hD ⊢
  have hA : ∀ q : Nat, s.heap.size ≤ q → A q := fun q h => by rw [← hAe]; exact Or.inr h
  have hS : va_S A s.heap s.heap [] := va_S.rf
  refine W_abs (fun Q hQ => ?_)
  have hl := lv_entry ([.ref p_this, .int x1, .int x2]) (n := 8) (Nat.le_of_ble_eq_true rfl)
  rw [lg_entry_eq]
  generalize (lg_sl ([.ref p_this, .int x1, .int x2]) ++ List.replicate (8 - (lg_sl ([.ref p_this, .int x1, .int x2])).length) Slot.unset).toArray = ls at hl ⊢
  have hl : lv_has ls 8 [(0, .ref p_this), (1, .int x1), (2, .int x2)] := hl
  rw [f_X5_ours] at hrun
  refine W_start (ws := [(p_this, .inr (5, [.ref p_text, .ref p_reader, .ref p_told, .ref p_draft, .ref p_now, .ref p_imageZero, .ref p_imageOne, .ref p_slots, .ref p_placesOf, .int d_keptImages, .long d_traced])), (p_now, .inr (0, [.ref p_now_mounts, .ref p_now_lendings, .ref p_now_log, .ref p_now_undos])), (p_now_log, .inr (2, [.int d_now_log_most, .ref p_now_log_cells, .int d_now_log_many])), (p_now_log_cells, .inl (cI, 48, .inl d_now_log_cells))]) hP hS (fun H locs hP hS => ?_)
  have iwX5 : ∀ w ∈ wsX50, w ∈ wsX5_ours := by decide +kernel
  refine lv_iload_n hx hb dX5_ours_0 rfl (lv_at hl 1 rfl) ?_
  have hPc : va_P (dC, dI) vwCl [] H := hP.sub [] rfl
  have hDc : va_D A [] := hD.sub [] (by decide) rfl
  have hFc := va_free (wc := []) hD hS hA [] rfl
  refine va_calli (va_runS (As := [.int x1]) (rest := []) ⟨hx, hb, hml, hown, hts⟩ (c_X5_isNote l dC dI cI cZ H.size x1 (f_X5_isNote x1) rfl) (va_cwS 1 hts gX5_ours_X5_isNote rfl rfl rfl (by decide +kernel) ⟨Nat.le_of_ble_eq_true rfl, Nat.le_of_ble_eq_true rfl⟩) ⟨fun a U g mk q => ⟨q.1, PC.mv q.2⟩, fun U hU hW => ⟨rfl, PC.of hU hW hPc hK hDc hN⟩⟩ rfl rfl hl.1 rfl (lv_room (Nat.le_of_ble_eq_true rfl)) dX5_ours_1 ⟨Nat.zero_le _, Nat.zero_le _⟩) hS (fun q _ h => hFc q h) hFc (fun r_1 u t H1 locs ht hvm hw hB hz1 hk1 hS => ?_)
  obtain ⟨hP1, hD1⟩ := hB
  try dsimp only at hw
  rw [hw]
  rw [ht] at hP1
  have hP : va_P (dC, dI) vwCl [(p_this, .inr (5, [.ref p_text, .ref p_reader, .ref p_told, .ref p_draft, .ref p_now, .ref p_imageZero, .ref p_imageOne, .ref p_slots, .ref p_placesOf, .int d_keptImages, .long d_traced])), (p_now, .inr (0, [.ref p_now_mounts, .ref p_now_lendings, .ref p_now_log, .ref p_now_undos])), (p_now_log, .inr (2, [.int d_now_log_most, .ref p_now_log_cells, .int d_now_log_many])), (p_now_log_cells, .inl (cI, 48, .inl d_now_log_cells))] H1 := join_ro hP hD [] rfl hk1 hP1
  clear hPc hDc hFc hk1 hz1 hP1 hD1 ht hvm
  generalize H1 = H at hP hS ⊢
  refine lv_if_eq (tgt := 16) hx hb dX5_ours_4 (by decide) (fun c_4 => ?_) (fun c_4 => ?_)
  · rw [if_pos c_4] at hrun
    refine lv_iconst (v := (-1)) hx hb dX5_ours_16 (by decide) ?_
    have hrun := Option.some.inj hrun
    subst hrun
    rw [hQ]
    exact W.iret (v := (-1)) hx hb hr (fun t ht hW => ⟨⟨(-1), (), rfl, rfl, by rw [ht]; exact hP, hD⟩, hS.F ht⟩) hS.2.2 dX5_ours_17
  · rw [if_neg c_4] at hrun
    refine lv_iload_n hx hb dX5_ours_7 rfl (lv_at hl 2 rfl) ?_
    refine lv_if_lt (tgt := 16) hx hb dX5_ours_8 (by decide) (fun c_8 => ?_) (fun c_8 => ?_)
    · rw [if_pos c_8] at hrun
      refine lv_iconst (v := (-1)) hx hb dX5_ours_16 (by decide) ?_
      have hrun := Option.some.inj hrun
      subst hrun
      rw [hQ]
      exact W.iret (v := (-1)) hx hb hr (fun t ht hW => ⟨⟨(-1), (), rfl, rfl, by rw [ht]; exact hP, hD⟩, hS.F ht⟩) hS.2.2 dX5_ours_17
    · rw [if_neg c_8] at hrun
      refine lv_iload_n hx hb dX5_ours_11 rfl (lv_at hl 2 rfl) ?_
      refine lv_iconst (v := 2) hx hb dX5_ours_12 (by decide) ?_
      refine lv_icmp_le (tgt := 18) hx hb dX5_ours_13 (by decide) (fun c_13 => ?_) (fun c_13 => ?_)
      · rw [if_pos c_13] at hrun
        refine lv_iconst (v := 0) hx hb dX5_ours_18 (by decide) ?_
        refine lv_istore_n (lv' := [(3, .int 0), (0, .ref p_this), (1, .int x1), (2, .int x2)]) hx hb dX5_ours_19 rfl hl (by decide) rfl (fun ls hl => ?_)
        refine lv_bipush (v := (-9)) hx hb dX5_ours_20 (by decide) ?_
        refine lv_istore (lv' := [(4, .int (-9)), (3, .int 0), (0, .ref p_this), (1, .int x1), (2, .int x2)]) hx hb dX5_ours_22 hl (by decide) rfl (fun ls hl => ?_)
        refine lv_bipush (v := (-9)) hx hb dX5_ours_24 (by decide) ?_
        refine lv_istore (lv' := [(5, .int (-9)), (4, .int (-9)), (3, .int 0), (0, .ref p_this), (1, .int x1), (2, .int x2)]) hx hb dX5_ours_26 hl (by decide) rfl (fun ls hl => ?_)
        refine lv_iconst (v := 1) hx hb dX5_ours_28 (by decide) ?_
        refine lv_istore (lv' := [(6, .int 1), (5, .int (-9)), (4, .int (-9)), (3, .int 0), (0, .ref p_this), (1, .int x1), (2, .int x2)]) hx hb dX5_ours_29 hl (by decide) rfl (fun ls hl => ?_)
        have X104 : ∀ (x3_104 : Int32) (x4_104 : Int32) (x5_104 : Int32) (H : Heap) (locs : List Loc), va_P (dC, dI) vwCl [(p_this, .inr (5, [.ref p_text, .ref p_reader, .ref p_told, .ref p_draft, .ref p_now, .ref p_imageZero, .ref p_imageOne, .ref p_slots, .ref p_placesOf, .int d_keptImages, .long d_traced])), (p_now, .inr (0, [.ref p_now_mounts, .ref p_now_lendings, .ref p_now_log, .ref p_now_undos])), (p_now_log, .inr (2, [.int d_now_log_most, .ref p_now_log_cells, .int d_now_log_many])), (p_now_log_cells, .inl (cI, 48, .inl d_now_log_cells))] H → va_D A [(p_this, .inr (5, [.ref p_text, .ref p_reader, .ref p_told, .ref p_draft, .ref p_now, .ref p_imageZero, .ref p_imageOne, .ref p_slots, .ref p_placesOf, .int d_keptImages, .long d_traced])), (p_now, .inr (0, [.ref p_now_mounts, .ref p_now_lendings, .ref p_now_log, .ref p_now_undos])), (p_now_log, .inr (2, [.int d_now_log_most, .ref p_now_log_cells, .int d_now_log_many])), (p_now_log_cells, .inl (cI, 48, .inl d_now_log_cells))] → va_S A s.heap H locs → ∀ ls : Array Slot, lv_has ls 8 [(2, .int x2), (3, .int x3_104), (4, .int x4_104), (5, .int x5_104)] → f_X5_ours_X104 x2 x3_104 x4_104 x5_104 = some out → W p l e ({ frames := 4, cells := 0, slots := 0, locals := 92 } : Room) s m ([.ref p_this, .int x1, .int x2] : List Value).toArray below meth c H locs 0 0 Q (F0 m 104 ls []) := by
          intro x3_104 x4_104 x5_104 H locs hP hD hS ls hl hrun
          rw [f_X5_ours_X104] at hrun
          refine lv_iload_n hx hb dX5_ours_104 rfl (lv_at hl 0 rfl) ?_
          refine lv_if_ne (tgt := 112) hx hb dX5_ours_105 (by decide) (fun c_105 => ?_) (fun c_105 => ?_)
          · rw [if_neg c_105] at hrun
            refine lv_iload_n hx hb dX5_ours_112 rfl (lv_at hl 0 rfl) ?_
            refine lv_iconst (v := 1) hx hb dX5_ours_113 (by decide) ?_
            refine lv_icmp_ne (tgt := 122) hx hb dX5_ours_114 (by decide) (fun c_114 => ?_) (fun c_114 => ?_)
            · rw [if_neg c_114] at hrun
              refine lv_iload hx hb dX5_ours_122 (lv_at hl 3 rfl) ?_
              have hrun := Option.some.inj hrun
              subst hrun
              rw [hQ]
              exact W.iret (v := x5_104) hx hb hr (fun t ht hW => ⟨⟨x5_104, (), rfl, rfl, by rw [ht]; exact hP, hD⟩, hS.F ht⟩) hS.2.2 dX5_ours_124
            · rw [if_pos c_114] at hrun
              refine lv_iload hx hb dX5_ours_117 (lv_at hl 2 rfl) ?_
              refine lv_goto (tgt := 124) hx hb dX5_ours_119 (by decide) ?_
              have hrun := Option.some.inj hrun
              subst hrun
              rw [hQ]
              exact W.iret (v := x4_104) hx hb hr (fun t ht hW => ⟨⟨x4_104, (), rfl, rfl, by rw [ht]; exact hP, hD⟩, hS.F ht⟩) hS.2.2 dX5_ours_124
          · rw [if_pos c_105] at hrun
            refine lv_iload_n hx hb dX5_ours_108 rfl (lv_at hl 1 rfl) ?_
            refine lv_goto (tgt := 124) hx hb dX5_ours_109 (by decide) ?_
            have hrun := Option.some.inj hrun
            subst hrun
            rw [hQ]
            exact W.iret (v := x3_104) hx hb hr (fun t ht hW => ⟨⟨x3_104, (), rfl, rfl, by rw [ht]; exact hP, hD⟩, hS.F ht⟩) hS.2.2 dX5_ours_124
        have L31 : ∀ (n9_31 : Nat) (x3_31 : Int32) (x4_31 : Int32) (x5_31 : Int32) (x6_31 : Int32) (H : Heap) (locs : List Loc), va_P (dC, dI) vwCl [(p_this, .inr (5, [.ref p_text, .ref p_reader, .ref p_told, .ref p_draft, .ref p_now, .ref p_imageZero, .ref p_imageOne, .ref p_slots, .ref p_placesOf, .int d_keptImages, .long d_traced])), (p_now, .inr (0, [.ref p_now_mounts, .ref p_now_lendings, .ref p_now_log, .ref p_now_undos])), (p_now_log, .inr (2, [.int d_now_log_most, .ref p_now_log_cells, .int d_now_log_many])), (p_now_log_cells, .inl (cI, 48, .inl d_now_log_cells))] H → va_D A [(p_this, .inr (5, [.ref p_text, .ref p_reader, .ref p_told, .ref p_draft, .ref p_now, .ref p_imageZero, .ref p_imageOne, .ref p_slots, .ref p_placesOf, .int d_keptImages, .long d_traced])), (p_now, .inr (0, [.ref p_now_mounts, .ref p_now_lendings, .ref p_now_log, .ref p_now_undos])), (p_now_log, .inr (2, [.int d_now_log_most, .ref p_now_log_cells, .int d_now_log_many])), (p_now_log_cells, .inl (cI, 48, .inl d_now_log_cells))] → va_S A s.heap H locs → ∀ ls : Array Slot, lv_has ls 8 [(0, .ref p_this), (1, .int x1), (2, .int x2), (3, .int x3_31), (4, .int x4_31), (5, .int x5_31), (6, .int x6_31)] → f_X5_ours_L31 (f_X5_ours_X104 x2) x1 x2 d_now_log_many d_now_log_cells n9_31 x3_31 x4_31 x5_31 x6_31 = some out → W p l e ({ frames := 4, cells := 0, slots := 0, locals := 92 } : Room) s m ([.ref p_this, .int x1, .int x2] : List Value).toArray below meth c H locs 0 0 Q (F0 m 31 ls []) := by
          intro n9_31
          induction n9_31 with
          | zero =>
            intro x3_31 x4_31 x5_31 x6_31 H locs hP hD hS ls hl hrun
            rw [f_X5_ours_L31] at hrun
            cases hrun
          | succ n9_31 ih31 =>
            intro x3_31 x4_31 x5_31 x6_31 H locs hP hD hS ls hl hrun
            rw [f_X5_ours_L31] at hrun
            refine lv_iload hx hb dX5_ours_31 (lv_at hl 6 rfl) ?_
            refine lv_bipush (v := 12) hx hb dX5_ours_33 (by decide) ?_
            refine lv_icmp_gt (tgt := 104) hx hb dX5_ours_35 (by decide) (fun c_35 => ?_) (fun c_35 => ?_)
            · rw [if_pos c_35] at hrun
              exact X104 x3_31 x4_31 x5_31 H locs hP hD hS ls (lv_sub hl [2, 3, 4, 5] rfl) hrun
            · rw [if_neg c_35] at hrun
              refine lv_iconst (v := 0) hx hb dX5_ours_38 (by decide) ?_
              refine lv_istore (lv' := [(7, .int 0), (0, .ref p_this), (1, .int x1), (2, .int x2), (3, .int x3_31), (4, .int x4_31), (5, .int x5_31), (6, .int x6_31)]) hx hb dX5_ours_39 hl (by decide) rfl (fun ls hl => ?_)
              have X98 : ∀ (x3_98 : Int32) (x4_98 : Int32) (x5_98 : Int32) (H : Heap) (locs : List Loc), va_P (dC, dI) vwCl [(p_this, .inr (5, [.ref p_text, .ref p_reader, .ref p_told, .ref p_draft, .ref p_now, .ref p_imageZero, .ref p_imageOne, .ref p_slots, .ref p_placesOf, .int d_keptImages, .long d_traced])), (p_now, .inr (0, [.ref p_now_mounts, .ref p_now_lendings, .ref p_now_log, .ref p_now_undos])), (p_now_log, .inr (2, [.int d_now_log_most, .ref p_now_log_cells, .int d_now_log_many])), (p_now_log_cells, .inl (cI, 48, .inl d_now_log_cells))] H → va_D A [(p_this, .inr (5, [.ref p_text, .ref p_reader, .ref p_told, .ref p_draft, .ref p_now, .ref p_imageZero, .ref p_imageOne, .ref p_slots, .ref p_placesOf, .int d_keptImages, .long d_traced])), (p_now, .inr (0, [.ref p_now_mounts, .ref p_now_lendings, .ref p_now_log, .ref p_now_undos])), (p_now_log, .inr (2, [.int d_now_log_most, .ref p_now_log_cells, .int d_now_log_many])), (p_now_log_cells, .inl (cI, 48, .inl d_now_log_cells))] → va_S A s.heap H locs → ∀ ls : Array Slot, lv_has ls 8 [(0, .ref p_this), (1, .int x1), (2, .int x2), (3, .int x3_98), (4, .int x4_98), (5, .int x5_98), (6, .int x6_31)] → f_X5_ours_X98 (f_X5_ours_L31 (f_X5_ours_X104 x2) x1 x2 d_now_log_many d_now_log_cells n9_31) x1 x2 x6_31 d_now_log_many d_now_log_cells x3_98 x4_98 x5_98 = some out → W p l e ({ frames := 4, cells := 0, slots := 0, locals := 92 } : Room) s m ([.ref p_this, .int x1, .int x2] : List Value).toArray below meth c H locs 0 0 Q (F0 m 98 ls []) := by
                intro x3_98 x4_98 x5_98 H locs hP hD hS ls hl hrun
                rw [f_X5_ours_X98] at hrun
                refine lv_iinc (v := x6_31 + 1) (lv' := [(6, .int (x6_31 + 1)), (0, .ref p_this), (1, .int x1), (2, .int x2), (3, .int x3_98), (4, .int x4_98), (5, .int x5_98)]) hx hb dX5_ours_98 hl (k := 6) rfl rfl (by decide) rfl (fun ls hl => ?_)
                refine lv_goto (tgt := 31) hx hb dX5_ours_101 (by decide) ?_
                exact ih31 x3_98 x4_98 x5_98 (x6_31 + 1) H locs hP hD hS ls (lv_sub hl [1, 2, 3, 4, 5, 6, 0] rfl) hrun
              have L41 : ∀ (n9_41 : Nat) (x3_41 : Int32) (x4_41 : Int32) (x5_41 : Int32) (x7_41 : Int32) (H : Heap) (locs : List Loc), va_P (dC, dI) vwCl [(p_this, .inr (5, [.ref p_text, .ref p_reader, .ref p_told, .ref p_draft, .ref p_now, .ref p_imageZero, .ref p_imageOne, .ref p_slots, .ref p_placesOf, .int d_keptImages, .long d_traced])), (p_now, .inr (0, [.ref p_now_mounts, .ref p_now_lendings, .ref p_now_log, .ref p_now_undos])), (p_now_log, .inr (2, [.int d_now_log_most, .ref p_now_log_cells, .int d_now_log_many])), (p_now_log_cells, .inl (cI, 48, .inl d_now_log_cells))] H → va_D A [(p_this, .inr (5, [.ref p_text, .ref p_reader, .ref p_told, .ref p_draft, .ref p_now, .ref p_imageZero, .ref p_imageOne, .ref p_slots, .ref p_placesOf, .int d_keptImages, .long d_traced])), (p_now, .inr (0, [.ref p_now_mounts, .ref p_now_lendings, .ref p_now_log, .ref p_now_undos])), (p_now_log, .inr (2, [.int d_now_log_most, .ref p_now_log_cells, .int d_now_log_many])), (p_now_log_cells, .inl (cI, 48, .inl d_now_log_cells))] → va_S A s.heap H locs → ∀ ls : Array Slot, lv_has ls 8 [(0, .ref p_this), (1, .int x1), (2, .int x2), (3, .int x3_41), (4, .int x4_41), (5, .int x5_41), (6, .int x6_31), (7, .int x7_41)] → f_X5_ours_L41 (f_X5_ours_X98 (f_X5_ours_L31 (f_X5_ours_X104 x2) x1 x2 d_now_log_many d_now_log_cells n9_31) x1 x2 x6_31 d_now_log_many d_now_log_cells) x1 x2 x6_31 d_now_log_many d_now_log_cells n9_41 x3_41 x4_41 x5_41 x7_41 = some out → W p l e ({ frames := 4, cells := 0, slots := 0, locals := 92 } : Room) s m ([.ref p_this, .int x1, .int x2] : List Value).toArray below meth c H locs 0 0 Q (F0 m 41 ls []) := by
                intro n9_41
                induction n9_41 with
                | zero =>
                  intro x3_41 x4_41 x5_41 x7_41 H locs hP hD hS ls hl hrun
                  rw [f_X5_ours_L41] at hrun
                  cases hrun
                | succ n9_41 ih41 =>
                  intro x3_41 x4_41 x5_41 x7_41 H locs hP hD hS ls hl hrun
                  rw [f_X5_ours_L41] at hrun
                  refine lv_iload hx hb dX5_ours_41 (lv_at hl 7 rfl) ?_
                  refine lv_iload hx hb dX5_ours_43 (lv_at hl 6 rfl) ?_
                  refine lv_icmp_ge (tgt := 98) hx hb dX5_ours_45 (by decide) (fun c_45 => ?_) (fun c_45 => ?_)
                  · rw [if_pos c_45] at hrun
                    exact X98 x3_41 x4_41 x5_41 H locs hP hD hS ls (lv_sub hl [0, 1, 2, 3, 4, 5, 6] rfl) hrun
                  · rw [if_neg c_45] at hrun
                    refine lv_aload_n hx hb dX5_ours_48 rfl (lv_at hl 0 rfl) ?_
                    refine va_get (D := (dC, dI)) (ci := 5) (v := .ref p_now) (C := RX5) (T := TX5) (N := 11) hx hb hts iwX5 hown hK hP 0 rfl rfl 4 (by decide) (hts (.fieldLink RX5 36 "SkyListeners" "now" "LSkyListeners$Now;") (by decide +kernel)) (fun _ h9 => h9) rfl dX5_ours_49 ?_
                    refine lv_iload_n hx hb dX5_ours_52 rfl (lv_at hl 1 rfl) ?_
                    refine lv_iload hx hb dX5_ours_53 (lv_at hl 6 rfl) ?_
                    refine lv_iload hx hb dX5_ours_55 (lv_at hl 7 rfl) ?_
                    obtain ⟨q57, hq57, hrun⟩ := bind_out hrun
                    have hPc : va_P (dC, dI) vwCl [(p_now, .inr (0, [.ref p_now_mounts, .ref p_now_lendings, .ref p_now_log, .ref p_now_undos])), (p_now_log, .inr (2, [.int d_now_log_most, .ref p_now_log_cells, .int d_now_log_many])), (p_now_log_cells, .inl (cI, 48, .inl d_now_log_cells))] H := hP.sub [1, 2, 3] rfl
                    have hDc : va_D A [(p_now, .inr (0, [.ref p_now_mounts, .ref p_now_lendings, .ref p_now_log, .ref p_now_undos])), (p_now_log, .inr (2, [.int d_now_log_most, .ref p_now_log_cells, .int d_now_log_many])), (p_now_log_cells, .inl (cI, 48, .inl d_now_log_cells))] := hD.sub [1, 2, 3] (by decide) rfl
                    have hFc := va_free (wc := [(p_now, .inr (0, [.ref p_now_mounts, .ref p_now_lendings, .ref p_now_log, .ref p_now_undos])), (p_now_log, .inr (2, [.int d_now_log_most, .ref p_now_log_cells, .int d_now_log_many])), (p_now_log_cells, .inl (cI, 48, .inl d_now_log_cells))]) hD hS hA [1, 2, 3] rfl
                    refine va_calli (va_runV (As := [.int x1, .int x6_31, .int x7_41]) (rest := []) ⟨hx, hb, hml, hown, hts⟩ (c_X0_fitsLaw l dC dI cI cZ H.size p_now_lendings p_now_log p_now_log_cells p_now_mounts p_now p_now_undos d_now_log_most d_now_log_many d_now_log_cells x1 x6_31 x7_41 q57 hq57) (cwV 3 hts gX5_ours_X0_fitsLaw rfl rfl rfl (by decide +kernel) ⟨Nat.le_of_ble_eq_true rfl, Nat.le_of_ble_eq_true rfl⟩) ⟨fun a U g mk q => ⟨q.1, PC.mv q.2⟩, va_recv hK hP (ci := 0) (q0 := 1) rfl rfl, fun U hU hW => ⟨rfl, PC.of hU hW hPc hK hDc hN⟩⟩ rfl rfl hl.1 rfl (lv_room (Nat.le_of_ble_eq_true rfl)) dX5_ours_57 ⟨Nat.zero_le _, Nat.zero_le _⟩) hS (fun q _ h => hFc q h) hFc (fun r_57 u t H1 locs ht hvm hw hB hz1 hk1 hS => ?_)
                    obtain ⟨hP1, hD1⟩ := hB
                    try dsimp only at hw
                    rw [hw]
                    rw [ht] at hP1
                    have hP : va_P (dC, dI) vwCl [(p_this, .inr (5, [.ref p_text, .ref p_reader, .ref p_told, .ref p_draft, .ref p_now, .ref p_imageZero, .ref p_imageOne, .ref p_slots, .ref p_placesOf, .int d_keptImages, .long d_traced])), (p_now, .inr (0, [.ref p_now_mounts, .ref p_now_lendings, .ref p_now_log, .ref p_now_undos])), (p_now_log, .inr (2, [.int d_now_log_most, .ref p_now_log_cells, .int d_now_log_many])), (p_now_log_cells, .inl (cI, 48, .inl d_now_log_cells))] H1 := join_ro hP hD [1, 2, 3] rfl hk1 hP1
                    clear hPc hDc hFc hk1 hz1 hP1 hD1 ht hvm
                    generalize H1 = H at hP hS ⊢
                    have J92 : ∀ (x3_92 : Int32) (x4_92 : Int32) (x5_92 : Int32) (H : Heap) (locs : List Loc), va_P (dC, dI) vwCl [(p_this, .inr (5, [.ref p_text, .ref p_reader, .ref p_told, .ref p_draft, .ref p_now, .ref p_imageZero, .ref p_imageOne, .ref p_slots, .ref p_placesOf, .int d_keptImages, .long d_traced])), (p_now, .inr (0, [.ref p_now_mounts, .ref p_now_lendings, .ref p_now_log, .ref p_now_undos])), (p_now_log, .inr (2, [.int d_now_log_most, .ref p_now_log_cells, .int d_now_log_many])), (p_now_log_cells, .inl (cI, 48, .inl d_now_log_cells))] H → va_D A [(p_this, .inr (5, [.ref p_text, .ref p_reader, .ref p_told, .ref p_draft, .ref p_now, .ref p_imageZero, .ref p_imageOne, .ref p_slots, .ref p_placesOf, .int d_keptImages, .long d_traced])), (p_now, .inr (0, [.ref p_now_mounts, .ref p_now_lendings, .ref p_now_log, .ref p_now_undos])), (p_now_log, .inr (2, [.int d_now_log_most, .ref p_now_log_cells, .int d_now_log_many])), (p_now_log_cells, .inl (cI, 48, .inl d_now_log_cells))] → va_S A s.heap H locs → ∀ ls : Array Slot, lv_has ls 8 [(0, .ref p_this), (1, .int x1), (2, .int x2), (3, .int x3_92), (4, .int x4_92), (5, .int x5_92), (6, .int x6_31), (7, .int x7_41)] → f_X5_ours_J92 (f_X5_ours_L41 (f_X5_ours_X98 (f_X5_ours_L31 (f_X5_ours_X104 x2) x1 x2 d_now_log_many d_now_log_cells n9_31) x1 x2 x6_31 d_now_log_many d_now_log_cells) x1 x2 x6_31 d_now_log_many d_now_log_cells n9_41) x1 x2 x6_31 x7_41 d_now_log_many d_now_log_cells x3_92 x4_92 x5_92 = some out → W p l e ({ frames := 4, cells := 0, slots := 0, locals := 92 } : Room) s m ([.ref p_this, .int x1, .int x2] : List Value).toArray below meth c H locs 0 0 Q (F0 m 92 ls []) := by
                      intro x3_92 x4_92 x5_92 H locs hP hD hS ls hl hrun
                      rw [f_X5_ours_J92] at hrun
                      refine lv_iinc (v := x7_41 + 1) (lv' := [(7, .int (x7_41 + 1)), (0, .ref p_this), (1, .int x1), (2, .int x2), (3, .int x3_92), (4, .int x4_92), (5, .int x5_92), (6, .int x6_31)]) hx hb dX5_ours_92 hl (k := 7) rfl rfl (by decide) rfl (fun ls hl => ?_)
                      refine lv_goto (tgt := 41) hx hb dX5_ours_95 (by decide) ?_
                      exact ih41 x3_92 x4_92 x5_92 (x7_41 + 1) H locs hP hD hS ls (lv_sub hl [1, 2, 3, 4, 5, 6, 7, 0] rfl) hrun
                    refine lv_if_eq (tgt := 92) hx hb dX5_ours_60 (by decide) (fun c_60 => ?_) (fun c_60 => ?_)
                    · rw [if_pos c_60] at hrun
                      exact J92 x3_41 x4_41 x5_41 H locs hP hD hS ls hl hrun
                    · rw [if_neg c_60] at hrun
                      refine lv_iload_n hx hb dX5_ours_63 rfl (lv_at hl 3 rfl) ?_
                      have J74 : ∀ (t0_74 : Int32) (H : Heap) (locs : List Loc), va_P (dC, dI) vwCl [(p_this, .inr (5, [.ref p_text, .ref p_reader, .ref p_told, .ref p_draft, .ref p_now, .ref p_imageZero, .ref p_imageOne, .ref p_slots, .ref p_placesOf, .int d_keptImages, .long d_traced])), (p_now, .inr (0, [.ref p_now_mounts, .ref p_now_lendings, .ref p_now_log, .ref p_now_undos])), (p_now_log, .inr (2, [.int d_now_log_most, .ref p_now_log_cells, .int d_now_log_many])), (p_now_log_cells, .inl (cI, 48, .inl d_now_log_cells))] H → va_D A [(p_this, .inr (5, [.ref p_text, .ref p_reader, .ref p_told, .ref p_draft, .ref p_now, .ref p_imageZero, .ref p_imageOne, .ref p_slots, .ref p_placesOf, .int d_keptImages, .long d_traced])), (p_now, .inr (0, [.ref p_now_mounts, .ref p_now_lendings, .ref p_now_log, .ref p_now_undos])), (p_now_log, .inr (2, [.int d_now_log_most, .ref p_now_log_cells, .int d_now_log_many])), (p_now_log_cells, .inl (cI, 48, .inl d_now_log_cells))] → va_S A s.heap H locs → ∀ ls : Array Slot, lv_has ls 8 [(0, .ref p_this), (1, .int x1), (2, .int x2), (3, .int x3_41), (5, .int x5_41), (6, .int x6_31), (7, .int x7_41)] → f_X5_ours_J74 (f_X5_ours_J92 (f_X5_ours_L41 (f_X5_ours_X98 (f_X5_ours_L31 (f_X5_ours_X104 x2) x1 x2 d_now_log_many d_now_log_cells n9_31) x1 x2 x6_31 d_now_log_many d_now_log_cells) x1 x2 x6_31 d_now_log_many d_now_log_cells n9_41) x1 x2 x6_31 x7_41 d_now_log_many d_now_log_cells) x1 x2 x3_41 x5_41 x6_31 x7_41 d_now_log_many d_now_log_cells t0_74 = some out → W p l e ({ frames := 4, cells := 0, slots := 0, locals := 92 } : Room) s m ([.ref p_this, .int x1, .int x2] : List Value).toArray below meth c H locs 0 0 Q (F0 m 74 ls [.int t0_74]) := by
                        intro t0_74 H locs hP hD hS ls hl hrun
                        rw [f_X5_ours_J74] at hrun
                        refine lv_istore (lv' := [(4, .int t0_74), (0, .ref p_this), (1, .int x1), (2, .int x2), (3, .int x3_41), (5, .int x5_41), (6, .int x6_31), (7, .int x7_41)]) hx hb dX5_ours_74 hl (by decide) rfl (fun ls hl => ?_)
                        refine lv_iload_n hx hb dX5_ours_76 rfl (lv_at hl 4 rfl) ?_
                        have J87 : ∀ (t0_87 : Int32) (H : Heap) (locs : List Loc), va_P (dC, dI) vwCl [(p_this, .inr (5, [.ref p_text, .ref p_reader, .ref p_told, .ref p_draft, .ref p_now, .ref p_imageZero, .ref p_imageOne, .ref p_slots, .ref p_placesOf, .int d_keptImages, .long d_traced])), (p_now, .inr (0, [.ref p_now_mounts, .ref p_now_lendings, .ref p_now_log, .ref p_now_undos])), (p_now_log, .inr (2, [.int d_now_log_most, .ref p_now_log_cells, .int d_now_log_many])), (p_now_log_cells, .inl (cI, 48, .inl d_now_log_cells))] H → va_D A [(p_this, .inr (5, [.ref p_text, .ref p_reader, .ref p_told, .ref p_draft, .ref p_now, .ref p_imageZero, .ref p_imageOne, .ref p_slots, .ref p_placesOf, .int d_keptImages, .long d_traced])), (p_now, .inr (0, [.ref p_now_mounts, .ref p_now_lendings, .ref p_now_log, .ref p_now_undos])), (p_now_log, .inr (2, [.int d_now_log_most, .ref p_now_log_cells, .int d_now_log_many])), (p_now_log_cells, .inl (cI, 48, .inl d_now_log_cells))] → va_S A s.heap H locs → ∀ ls : Array Slot, lv_has ls 8 [(0, .ref p_this), (1, .int x1), (2, .int x2), (3, .int x3_41), (4, .int t0_74), (6, .int x6_31), (7, .int x7_41)] → f_X5_ours_J87 (f_X5_ours_J92 (f_X5_ours_L41 (f_X5_ours_X98 (f_X5_ours_L31 (f_X5_ours_X104 x2) x1 x2 d_now_log_many d_now_log_cells n9_31) x1 x2 x6_31 d_now_log_many d_now_log_cells) x1 x2 x6_31 d_now_log_many d_now_log_cells n9_41) x1 x2 x6_31 x7_41 d_now_log_many d_now_log_cells) x1 x2 x3_41 t0_74 x6_31 x7_41 d_now_log_many d_now_log_cells t0_87 = some out → W p l e ({ frames := 4, cells := 0, slots := 0, locals := 92 } : Room) s m ([.ref p_this, .int x1, .int x2] : List Value).toArray below meth c H locs 0 0 Q (F0 m 87 ls [.int t0_87]) := by
                          intro t0_87 H locs hP hD hS ls hl hrun
                          rw [f_X5_ours_J87] at hrun
                          refine lv_istore (lv' := [(5, .int t0_87), (0, .ref p_this), (1, .int x1), (2, .int x2), (3, .int x3_41), (4, .int t0_74), (6, .int x6_31), (7, .int x7_41)]) hx hb dX5_ours_87 hl (by decide) rfl (fun ls hl => ?_)
                          refine lv_iinc (v := x3_41 + 1) (lv' := [(3, .int (x3_41 + 1)), (5, .int t0_87), (0, .ref p_this), (1, .int x1), (2, .int x2), (4, .int t0_74), (6, .int x6_31), (7, .int x7_41)]) hx hb dX5_ours_89 hl (k := 4) rfl rfl (by decide) rfl (fun ls hl => ?_)
                          exact J92 (x3_41 + 1) t0_74 t0_87 H locs hP hD hS ls (lv_sub hl [2, 3, 4, 0, 5, 1, 6, 7] rfl) hrun
                        refine lv_if_ne (tgt := 85) hx hb dX5_ours_77 (by decide) (fun c_77 => ?_) (fun c_77 => ?_)
                        · rw [if_neg c_77] at hrun
                          refine lv_iload hx hb dX5_ours_85 (lv_at hl 5 rfl) ?_
                          exact J87 x5_41 H locs hP hD hS ls (lv_sub hl [1, 2, 3, 4, 0, 6, 7] rfl) hrun
                        · rw [if_pos c_77] at hrun
                          refine lv_iload hx hb dX5_ours_80 (lv_at hl 7 rfl) ?_
                          refine lv_goto (tgt := 87) hx hb dX5_ours_82 (by decide) ?_
                          exact J87 x7_41 H locs hP hD hS ls (lv_sub hl [1, 2, 3, 4, 0, 6, 7] rfl) hrun
                      refine lv_if_ne (tgt := 72) hx hb dX5_ours_64 (by decide) (fun c_64 => ?_) (fun c_64 => ?_)
                      · rw [if_neg c_64] at hrun
                        refine lv_iload hx hb dX5_ours_72 (lv_at hl 4 rfl) ?_
                        exact J74 x4_41 H locs hP hD hS ls (lv_sub hl [0, 1, 2, 3, 5, 6, 7] rfl) hrun
                      · rw [if_pos c_64] at hrun
                        refine lv_iload hx hb dX5_ours_67 (lv_at hl 6 rfl) ?_
                        refine lv_goto (tgt := 74) hx hb dX5_ours_69 (by decide) ?_
                        exact J74 x6_31 H locs hP hD hS ls (lv_sub hl [0, 1, 2, 3, 5, 6, 7] rfl) hrun
              exact L41 FU x3_31 x4_31 x5_31 0 H locs hP hD hS ls (lv_sub hl [1, 2, 3, 4, 5, 6, 7, 0] rfl) hrun
        exact L31 FU 0 (-9) (-9) 1 H locs hP hD hS ls (lv_sub hl [4, 5, 6, 3, 2, 1, 0] rfl) hrun
      · rw [if_neg c_13] at hrun
        refine lv_iconst (v := (-1)) hx hb dX5_ours_16 (by decide) ?_
        have hrun := Option.some.inj hrun
        subst hrun
        rw [hQ]
        exact W.iret (v := (-1)) hx hb hr (fun t ht hW => ⟨⟨(-1), (), rfl, rfl, by rw [ht]; exact hP, hD⟩, hS.F ht⟩) hS.2.2 dX5_ours_17
-- SkyListeners.speakersThatFit
def f_X5_speakersThatFit_L4 (x1 : Int32) (d_now_log_many : Int32) (d_now_log_cells : Nat → Int32) (d_now_mounts_many : Int32) (d_now_mounts_cells : Nat → Int32) : Nat → Int32 → Int32 → Option (Int32)
  | 0, _, _ => none
  | n9 + 1, x2, x3 => (if 8 ≤ x3 then (some x2) else ((f_X0_spansThatFit d_now_log_many d_now_log_cells d_now_mounts_many d_now_mounts_cells x1 x3 0).bind fun q18 => (f_X5_speakersThatFit_L4  x1 d_now_log_many d_now_log_cells d_now_mounts_many d_now_mounts_cells n9 (x2 + q18) (x3 + 1))))
def f_X5_speakersThatFit (d_now_log_many : Int32) (d_now_log_cells : Nat → Int32) (d_now_mounts_many : Int32) (d_now_mounts_cells : Nat → Int32) (x1 : Int32) : Option (Int32) := (f_X5_speakersThatFit_L4 x1 d_now_log_many d_now_log_cells d_now_mounts_many d_now_mounts_cells FU 0 0)
set_option maxHeartbeats 4000000 in
set_option maxRecDepth 100000 in
theorem c_X5_speakersThatFit (l : Launch) (dC : Nat → ClassId) (dI : Nat → Nat → Nat) (cI cZ : ClassId) (sz : Nat) (p_draft p_imageOne p_imageZero p_now p_now_lendings p_now_log p_now_log_cells p_now_mounts p_now_mounts_cells p_now_undos p_placesOf p_reader p_slots p_text p_this p_told : Nat) (d_keptImages : Int32) (d_traced : Int64) (d_now_log_most : Int32) (d_now_log_many : Int32) (d_now_log_cells : Nat → Int32) (d_now_mounts_most : Int32) (d_now_mounts_many : Int32) (d_now_mounts_cells : Nat → Int32) (x1 : Int32) (out : Int32) (hrun : f_X5_speakersThatFit d_now_log_many d_now_log_cells d_now_mounts_many d_now_mounts_cells x1 = some out) : Met l yX5_speakersThatFit wsX5_speakersThatFit ({ frames := 5, cells := 0, slots := 0, locals := 122 } : Room) (va_Pc [.ref p_this, .int x1] (PC dC dI cI cZ sz ([(p_this, .inr (5, [.ref p_text, .ref p_reader, .ref p_told, .ref p_draft, .ref p_now, .ref p_imageZero, .ref p_imageOne, .ref p_slots, .ref p_placesOf, .int d_keptImages, .long d_traced])), (p_now, .inr (0, [.ref p_now_mounts, .ref p_now_lendings, .ref p_now_log, .ref p_now_undos])), (p_now_log, .inr (2, [.int d_now_log_most, .ref p_now_log_cells, .int d_now_log_many])), (p_now_log_cells, .inl (cI, 48, .inl d_now_log_cells)), (p_now_mounts, .inr (2, [.int d_now_mounts_most, .ref p_now_mounts_cells, .int d_now_mounts_many])), (p_now_mounts_cells, .inl (cI, 48, .inl d_now_mounts_cells))] : va_W))) (va_Qi (fun r (_ : Unit) => r = out) (fun _ t => va_P (dC, dI) vwCl [(p_this, .inr (5, [.ref p_text, .ref p_reader, .ref p_told, .ref p_draft, .ref p_now, .ref p_imageZero, .ref p_imageOne, .ref p_slots, .ref p_placesOf, .int d_keptImages, .long d_traced])), (p_now, .inr (0, [.ref p_now_mounts, .ref p_now_lendings, .ref p_now_log, .ref p_now_undos])), (p_now_log, .inr (2, [.int d_now_log_most, .ref p_now_log_cells, .int d_now_log_many])), (p_now_log_cells, .inl (cI, 48, .inl d_now_log_cells)), (p_now_mounts, .inr (2, [.int d_now_mounts_most, .ref p_now_mounts_cells, .int d_now_mounts_many])), (p_now_mounts_cells, .inl (cI, 48, .inl d_now_mounts_cells))] t.heap ∧ va_D (va_A ([(p_this, .inr (5, [.ref p_text, .ref p_reader, .ref p_told, .ref p_draft, .ref p_now, .ref p_imageZero, .ref p_imageOne, .ref p_slots, .ref p_placesOf, .int d_keptImages, .long d_traced])), (p_now, .inr (0, [.ref p_now_mounts, .ref p_now_lendings, .ref p_now_log, .ref p_now_undos])), (p_now_log, .inr (2, [.int d_now_log_most, .ref p_now_log_cells, .int d_now_log_many])), (p_now_log_cells, .inl (cI, 48, .inl d_now_log_cells)), (p_now_mounts, .inr (2, [.int d_now_mounts_most, .ref p_now_mounts_cells, .int d_now_mounts_many])), (p_now_mounts_cells, .inl (cI, 48, .inl d_now_mounts_cells))] : va_W) sz) [(p_this, .inr (5, [.ref p_text, .ref p_reader, .ref p_told, .ref p_draft, .ref p_now, .ref p_imageZero, .ref p_imageOne, .ref p_slots, .ref p_placesOf, .int d_keptImages, .long d_traced])), (p_now, .inr (0, [.ref p_now_mounts, .ref p_now_lendings, .ref p_now_log, .ref p_now_undos])), (p_now_log, .inr (2, [.int d_now_log_most, .ref p_now_log_cells, .int d_now_log_many])), (p_now_log_cells, .inl (cI, 48, .inl d_now_log_cells)), (p_now_mounts, .inr (2, [.int d_now_mounts_most, .ref p_now_mounts_cells, .int d_now_mounts_many])), (p_now_mounts_cells, .inl (cI, 48, .inl d_now_mounts_cells))]) (va_A ([(p_this, .inr (5, [.ref p_text, .ref p_reader, .ref p_told, .ref p_draft, .ref p_now, .ref p_imageZero, .ref p_imageOne, .ref p_slots, .ref p_placesOf, .int d_keptImages, .long d_traced])), (p_now, .inr (0, [.ref p_now_mounts, .ref p_now_lendings, .ref p_now_log, .ref p_now_undos])), (p_now_log, .inr (2, [.int d_now_log_most, .ref p_now_log_cells, .int d_now_log_many])), (p_now_log_cells, .inl (cI, 48, .inl d_now_log_cells)), (p_now_mounts, .inr (2, [.int d_now_mounts_most, .ref p_now_mounts_cells, .int d_now_mounts_many])), (p_now_mounts_cells, .inl (cI, 48, .inl d_now_mounts_cells))] : va_W) sz)) 0 0 (va_A ([(p_this, .inr (5, [.ref p_text, .ref p_reader, .ref p_told, .ref p_draft, .ref p_now, .ref p_imageZero, .ref p_imageOne, .ref p_slots, .ref p_placesOf, .int d_keptImages, .long d_traced])), (p_now, .inr (0, [.ref p_now_mounts, .ref p_now_lendings, .ref p_now_log, .ref p_now_undos])), (p_now_log, .inr (2, [.int d_now_log_most, .ref p_now_log_cells, .int d_now_log_many])), (p_now_log_cells, .inl (cI, 48, .inl d_now_log_cells)), (p_now_mounts, .inr (2, [.int d_now_mounts_most, .ref p_now_mounts_cells, .int d_now_mounts_many])), (p_now_mounts_cells, .inl (cI, 48, .inl d_now_mounts_cells))] : va_W) sz) := by
  refine Met.ofW (cc := cX5_speakersThatFit) (maxL := 4) (ret := (some .int)) (by decide) rfl ?_
  intro p e s m args below meth c s₁ B hml hv
  obtain ⟨rfl, hsz, hP, hK, hD0, hN⟩ := hv
  have hx := B.exec
  have hb := B.bytes
  have hr := B.returns
  have hts := atoms_spec (ws := wsX5_speakersThatFit) B.pre
  have hown : s.vm.findClass RX5 = some m.cls := findClass_of_methodNamed B.named
  have hlocks := B.notSynchronized
  subst hsz
  have hD := hD0.self (sz := s.heap.size)
  generalize hAe : va_A ([(p_this, .inr (5, [.ref p_text, .ref p_reader, .ref p_told, .ref p_draft, .ref p_now, .ref p_imageZero, .ref p_imageOne, .ref p_slots, .ref p_placesOf, .int d_keptImages, .long d_traced])), (p_now, .inr (0, [.ref p_now_mounts, .ref p_now_lendings, .ref p_now_log, .ref p_now_undos])), (p_now_log, .inr (2, [.int d_now_log_most, .ref p_now_log_cells, .int d_now_log_many])), (p_now_log_cells, .inl (cI, 48, .inl d_now_log_cells)), (p_now_mounts, .inr (2, [.int d_now_mounts_most, .ref p_now_mounts_cells, .int d_now_mounts_many])), (p_now_mounts_cells, .inl (cI, 48, .inl d_now_mounts_cells))] : va_W) s.heap.size = A at hD ⊢
  have hA : ∀ q : Nat, s.heap.size ≤ q → A q := fun q h => by rw [← hAe]; exact Or.inr h
  have hS : va_S A s.heap s.heap [] := va_S.rf
  refine W_abs (fun Q hQ => ?_)
  have hl := lv_entry ([.ref p_this, .int x1]) (n := 4) (Nat.le_of_ble_eq_true rfl)
  rw [lg_entry_eq]
  generalize (lg_sl ([.ref p_this, .int x1]) ++ List.replicate (4 - (lg_sl ([.ref p_this, .int x1])).length) Slot.unset).toArray = ls at hl ⊢
  have hl : lv_has ls 4 [(0, .ref p_this), (1, .int x1)] := hl
  rw [f_X5_speakersThatFit] at hrun
  refine W_start (ws := [(p_this, .inr (5, [.ref p_text, .ref p_reader, .ref p_told, .ref p_draft, .ref p_now, .ref p_imageZero, .ref p_imageOne, .ref p_slots, .ref p_placesOf, .int d_keptImages, .long d_traced])), (p_now, .inr (0, [.ref p_now_mounts, .ref p_now_lendings, .ref p_now_log, .ref p_now_undos])), (p_now_log, .inr (2, [.int d_now_log_most, .ref p_now_log_cells, .int d_now_log_many])), (p_now_log_cells, .inl (cI, 48, .inl d_now_log_cells)), (p_now_mounts, .inr (2, [.int d_now_mounts_most, .ref p_now_mounts_cells, .int d_now_mounts_many])), (p_now_mounts_cells, .inl (cI, 48, .inl d_now_mounts_cells))]) hP hS (fun H locs hP hS => ?_)
  have iwX5 : ∀ w ∈ wsX50, w ∈ wsX5_speakersThatFit := by decide +kernel
  refine lv_iconst (v := 0) hx hb dX5_speakersThatFit_0 (by decide) ?_
  refine lv_istore_n (lv' := [(2, .int 0), (0, .ref p_this), (1, .int x1)]) hx hb dX5_speakersThatFit_1 rfl hl (by decide) rfl (fun ls hl => ?_)
  refine lv_iconst (v := 0) hx hb dX5_speakersThatFit_2 (by decide) ?_
  refine lv_istore_n (lv' := [(3, .int 0), (2, .int 0), (0, .ref p_this), (1, .int x1)]) hx hb dX5_speakersThatFit_3 rfl hl (by decide) rfl (fun ls hl => ?_)
  have L4 : ∀ (n9_4 : Nat) (x2_4 : Int32) (x3_4 : Int32) (H : Heap) (locs : List Loc), va_P (dC, dI) vwCl [(p_this, .inr (5, [.ref p_text, .ref p_reader, .ref p_told, .ref p_draft, .ref p_now, .ref p_imageZero, .ref p_imageOne, .ref p_slots, .ref p_placesOf, .int d_keptImages, .long d_traced])), (p_now, .inr (0, [.ref p_now_mounts, .ref p_now_lendings, .ref p_now_log, .ref p_now_undos])), (p_now_log, .inr (2, [.int d_now_log_most, .ref p_now_log_cells, .int d_now_log_many])), (p_now_log_cells, .inl (cI, 48, .inl d_now_log_cells)), (p_now_mounts, .inr (2, [.int d_now_mounts_most, .ref p_now_mounts_cells, .int d_now_mounts_many])), (p_now_mounts_cells, .inl (cI, 48, .inl d_now_mounts_cells))] H → va_D A [(p_this, .inr (5, [.ref p_text, .ref p_reader, .ref p_told, .ref p_draft, .ref p_now, .ref p_imageZero, .ref p_imageOne, .ref p_slots, .ref p_placesOf, .int d_keptImages, .long d_traced])), (p_now, .inr (0, [.ref p_now_mounts, .ref p_now_lendings, .ref p_now_log, .ref p_now_undos])), (p_now_log, .inr (2, [.int d_now_log_most, .ref p_now_log_cells, .int d_now_log_many])), (p_now_log_cells, .inl (cI, 48, .inl d_now_log_cells)), (p_now_mounts, .inr (2, [.int d_now_mounts_most, .ref p_now_mounts_cells, .int d_now_mounts_many])), (p_now_mounts_cells, .inl (cI, 48, .inl d_now_mounts_cells))] → va_S A s.heap H locs → ∀ ls : Array Slot, lv_has ls 4 [(0, .ref p_this), (1, .int x1), (2, .int x2_4), (3, .int x3_4)] → f_X5_speakersThatFit_L4 x1 d_now_log_many d_now_log_cells d_now_mounts_many d_now_mounts_cells n9_4 x2_4 x3_4 = some out → W p l e ({ frames := 5, cells := 0, slots := 0, locals := 122 } : Room) s m ([.ref p_this, .int x1] : List Value).toArray below meth c H locs 0 0 Q (F0 m 4 ls []) := by
    intro n9_4
    induction n9_4 with
    | zero =>
      intro x2_4 x3_4 H locs hP hD hS ls hl hrun
      rw [f_X5_speakersThatFit_L4] at hrun
      cases hrun
    | succ n9_4 ih4 =>
      intro x2_4 x3_4 H locs hP hD hS ls hl hrun
      rw [f_X5_speakersThatFit_L4] at hrun
      refine lv_iload_n hx hb dX5_speakersThatFit_4 rfl (lv_at hl 3 rfl) ?_
      refine lv_bipush (v := 8) hx hb dX5_speakersThatFit_5 (by decide) ?_
      refine lv_icmp_ge (tgt := 29) hx hb dX5_speakersThatFit_7 (by decide) (fun c_7 => ?_) (fun c_7 => ?_)
      · rw [if_pos c_7] at hrun
        refine lv_iload_n hx hb dX5_speakersThatFit_29 rfl (lv_at hl 2 rfl) ?_
        have hrun := Option.some.inj hrun
        subst hrun
        rw [hQ]
        exact W.iret (v := x2_4) hx hb hr (fun t ht hW => ⟨⟨x2_4, (), rfl, rfl, by rw [ht]; exact hP, hD⟩, hS.F ht⟩) hS.2.2 dX5_speakersThatFit_30
      · rw [if_neg c_7] at hrun
        refine lv_iload_n hx hb dX5_speakersThatFit_10 rfl (lv_at hl 2 rfl) ?_
        refine lv_aload_n hx hb dX5_speakersThatFit_11 rfl (lv_at hl 0 rfl) ?_
        refine va_get (D := (dC, dI)) (ci := 5) (v := .ref p_now) (C := RX5) (T := TX5) (N := 11) hx hb hts iwX5 hown hK hP 0 rfl rfl 4 (by decide) (hts (.fieldLink RX5 36 "SkyListeners" "now" "LSkyListeners$Now;") (by decide +kernel)) (fun _ h9 => h9) rfl dX5_speakersThatFit_12 ?_
        refine lv_iload_n hx hb dX5_speakersThatFit_15 rfl (lv_at hl 1 rfl) ?_
        refine lv_iload_n hx hb dX5_speakersThatFit_16 rfl (lv_at hl 3 rfl) ?_
        refine lv_iconst (v := 0) hx hb dX5_speakersThatFit_17 (by decide) ?_
        obtain ⟨q18, hq18, hrun⟩ := bind_out hrun
        have hPc : va_P (dC, dI) vwCl [(p_now, .inr (0, [.ref p_now_mounts, .ref p_now_lendings, .ref p_now_log, .ref p_now_undos])), (p_now_log, .inr (2, [.int d_now_log_most, .ref p_now_log_cells, .int d_now_log_many])), (p_now_log_cells, .inl (cI, 48, .inl d_now_log_cells)), (p_now_mounts, .inr (2, [.int d_now_mounts_most, .ref p_now_mounts_cells, .int d_now_mounts_many])), (p_now_mounts_cells, .inl (cI, 48, .inl d_now_mounts_cells))] H := hP.sub [1, 2, 3, 4, 5] rfl
        have hDc : va_D A [(p_now, .inr (0, [.ref p_now_mounts, .ref p_now_lendings, .ref p_now_log, .ref p_now_undos])), (p_now_log, .inr (2, [.int d_now_log_most, .ref p_now_log_cells, .int d_now_log_many])), (p_now_log_cells, .inl (cI, 48, .inl d_now_log_cells)), (p_now_mounts, .inr (2, [.int d_now_mounts_most, .ref p_now_mounts_cells, .int d_now_mounts_many])), (p_now_mounts_cells, .inl (cI, 48, .inl d_now_mounts_cells))] := hD.sub [1, 2, 3, 4, 5] (by decide) rfl
        have hFc := va_free (wc := [(p_now, .inr (0, [.ref p_now_mounts, .ref p_now_lendings, .ref p_now_log, .ref p_now_undos])), (p_now_log, .inr (2, [.int d_now_log_most, .ref p_now_log_cells, .int d_now_log_many])), (p_now_log_cells, .inl (cI, 48, .inl d_now_log_cells)), (p_now_mounts, .inr (2, [.int d_now_mounts_most, .ref p_now_mounts_cells, .int d_now_mounts_many])), (p_now_mounts_cells, .inl (cI, 48, .inl d_now_mounts_cells))]) hD hS hA [1, 2, 3, 4, 5] rfl
        refine va_calli (va_runV (As := [.int x1, .int x3_4, .int 0]) (rest := [.int x2_4]) ⟨hx, hb, hml, hown, hts⟩ (c_X0_spansThatFit l dC dI cI cZ H.size p_now_lendings p_now_log p_now_log_cells p_now_mounts p_now_mounts_cells p_now p_now_undos d_now_log_most d_now_log_many d_now_log_cells d_now_mounts_most d_now_mounts_many d_now_mounts_cells x1 x3_4 0 q18 hq18) (cwV 3 hts gX5_speakersThatFit_X0_spansThatFit rfl rfl rfl (by decide +kernel) ⟨Nat.le_of_ble_eq_true rfl, Nat.le_of_ble_eq_true rfl⟩) ⟨fun a U g mk q => ⟨q.1, PC.mv q.2⟩, va_recv hK hP (ci := 0) (q0 := 1) rfl rfl, fun U hU hW => ⟨rfl, PC.of hU hW hPc hK hDc hN⟩⟩ rfl rfl hl.1 rfl (lv_room (Nat.le_of_ble_eq_true rfl)) dX5_speakersThatFit_18 ⟨Nat.zero_le _, Nat.zero_le _⟩) hS (fun q _ h => hFc q h) hFc (fun r_18 u t H1 locs ht hvm hw hB hz1 hk1 hS => ?_)
        obtain ⟨hP1, hD1⟩ := hB
        try dsimp only at hw
        rw [hw]
        rw [ht] at hP1
        have hP : va_P (dC, dI) vwCl [(p_this, .inr (5, [.ref p_text, .ref p_reader, .ref p_told, .ref p_draft, .ref p_now, .ref p_imageZero, .ref p_imageOne, .ref p_slots, .ref p_placesOf, .int d_keptImages, .long d_traced])), (p_now, .inr (0, [.ref p_now_mounts, .ref p_now_lendings, .ref p_now_log, .ref p_now_undos])), (p_now_log, .inr (2, [.int d_now_log_most, .ref p_now_log_cells, .int d_now_log_many])), (p_now_log_cells, .inl (cI, 48, .inl d_now_log_cells)), (p_now_mounts, .inr (2, [.int d_now_mounts_most, .ref p_now_mounts_cells, .int d_now_mounts_many])), (p_now_mounts_cells, .inl (cI, 48, .inl d_now_mounts_cells))] H1 := join_ro hP hD [1, 2, 3, 4, 5] rfl hk1 hP1
        clear hPc hDc hFc hk1 hz1 hP1 hD1 ht hvm
        generalize H1 = H at hP hS ⊢
        refine lv_iadd hx hb dX5_speakersThatFit_21 ?_
        refine lv_istore_n (lv' := [(2, .int (x2_4 + q18)), (0, .ref p_this), (1, .int x1), (3, .int x3_4)]) hx hb dX5_speakersThatFit_22 rfl hl (by decide) rfl (fun ls hl => ?_)
        refine lv_iinc (v := x3_4 + 1) (lv' := [(3, .int (x3_4 + 1)), (2, .int (x2_4 + q18)), (0, .ref p_this), (1, .int x1)]) hx hb dX5_speakersThatFit_23 hl (k := 3) rfl rfl (by decide) rfl (fun ls hl => ?_)
        refine lv_goto (tgt := 4) hx hb dX5_speakersThatFit_26 (by decide) ?_
        exact ih4 (x2_4 + q18) (x3_4 + 1) H locs hP hD hS ls (lv_sub hl [2, 3, 1, 0] rfl) hrun
  exact L4 FU 0 0 H locs hP hD hS ls (lv_sub hl [2, 3, 1, 0] rfl) hrun
-- SkyListeners.could
def f_X5_could (d_now_log_many : Int32) (d_now_log_cells : Nat → Int32) (d_now_mounts_many : Int32) (d_now_mounts_cells : Nat → Int32) (x1 : Int32) : Option (Int32) := (if (f_X5_isNote x1) = 0 then (some (-1)) else ((f_X5_speakersThatFit d_now_log_many d_now_log_cells d_now_mounts_many d_now_mounts_cells x1).bind fun q9 => (some q9)))
set_option maxHeartbeats 4000000 in
set_option maxRecDepth 100000 in
theorem c_X5_could (l : Launch) (dC : Nat → ClassId) (dI : Nat → Nat → Nat) (cI cZ : ClassId) (sz : Nat) (p_draft p_imageOne p_imageZero p_now p_now_lendings p_now_log p_now_log_cells p_now_mounts p_now_mounts_cells p_now_undos p_placesOf p_reader p_slots p_text p_this p_told : Nat) (d_keptImages : Int32) (d_traced : Int64) (d_now_log_most : Int32) (d_now_log_many : Int32) (d_now_log_cells : Nat → Int32) (d_now_mounts_most : Int32) (d_now_mounts_many : Int32) (d_now_mounts_cells : Nat → Int32) (x1 : Int32) (out : Int32) (hrun : f_X5_could d_now_log_many d_now_log_cells d_now_mounts_many d_now_mounts_cells x1 = some out) : Met l yX5_could wsX5_could ({ frames := 6, cells := 0, slots := 0, locals := 145 } : Room) (va_Pc [.ref p_this, .int x1] (PC dC dI cI cZ sz ([(p_this, .inr (5, [.ref p_text, .ref p_reader, .ref p_told, .ref p_draft, .ref p_now, .ref p_imageZero, .ref p_imageOne, .ref p_slots, .ref p_placesOf, .int d_keptImages, .long d_traced])), (p_now, .inr (0, [.ref p_now_mounts, .ref p_now_lendings, .ref p_now_log, .ref p_now_undos])), (p_now_log, .inr (2, [.int d_now_log_most, .ref p_now_log_cells, .int d_now_log_many])), (p_now_log_cells, .inl (cI, 48, .inl d_now_log_cells)), (p_now_mounts, .inr (2, [.int d_now_mounts_most, .ref p_now_mounts_cells, .int d_now_mounts_many])), (p_now_mounts_cells, .inl (cI, 48, .inl d_now_mounts_cells))] : va_W))) (va_Qi (fun r (_ : Unit) => r = out) (fun _ t => va_P (dC, dI) vwCl [(p_this, .inr (5, [.ref p_text, .ref p_reader, .ref p_told, .ref p_draft, .ref p_now, .ref p_imageZero, .ref p_imageOne, .ref p_slots, .ref p_placesOf, .int d_keptImages, .long d_traced])), (p_now, .inr (0, [.ref p_now_mounts, .ref p_now_lendings, .ref p_now_log, .ref p_now_undos])), (p_now_log, .inr (2, [.int d_now_log_most, .ref p_now_log_cells, .int d_now_log_many])), (p_now_log_cells, .inl (cI, 48, .inl d_now_log_cells)), (p_now_mounts, .inr (2, [.int d_now_mounts_most, .ref p_now_mounts_cells, .int d_now_mounts_many])), (p_now_mounts_cells, .inl (cI, 48, .inl d_now_mounts_cells))] t.heap ∧ va_D (va_A ([(p_this, .inr (5, [.ref p_text, .ref p_reader, .ref p_told, .ref p_draft, .ref p_now, .ref p_imageZero, .ref p_imageOne, .ref p_slots, .ref p_placesOf, .int d_keptImages, .long d_traced])), (p_now, .inr (0, [.ref p_now_mounts, .ref p_now_lendings, .ref p_now_log, .ref p_now_undos])), (p_now_log, .inr (2, [.int d_now_log_most, .ref p_now_log_cells, .int d_now_log_many])), (p_now_log_cells, .inl (cI, 48, .inl d_now_log_cells)), (p_now_mounts, .inr (2, [.int d_now_mounts_most, .ref p_now_mounts_cells, .int d_now_mounts_many])), (p_now_mounts_cells, .inl (cI, 48, .inl d_now_mounts_cells))] : va_W) sz) [(p_this, .inr (5, [.ref p_text, .ref p_reader, .ref p_told, .ref p_draft, .ref p_now, .ref p_imageZero, .ref p_imageOne, .ref p_slots, .ref p_placesOf, .int d_keptImages, .long d_traced])), (p_now, .inr (0, [.ref p_now_mounts, .ref p_now_lendings, .ref p_now_log, .ref p_now_undos])), (p_now_log, .inr (2, [.int d_now_log_most, .ref p_now_log_cells, .int d_now_log_many])), (p_now_log_cells, .inl (cI, 48, .inl d_now_log_cells)), (p_now_mounts, .inr (2, [.int d_now_mounts_most, .ref p_now_mounts_cells, .int d_now_mounts_many])), (p_now_mounts_cells, .inl (cI, 48, .inl d_now_mounts_cells))]) (va_A ([(p_this, .inr (5, [.ref p_text, .ref p_reader, .ref p_told, .ref p_draft, .ref p_now, .ref p_imageZero, .ref p_imageOne, .ref p_slots, .ref p_placesOf, .int d_keptImages, .long d_traced])), (p_now, .inr (0, [.ref p_now_mounts, .ref p_now_lendings, .ref p_now_log, .ref p_now_undos])), (p_now_log, .inr (2, [.int d_now_log_most, .ref p_now_log_cells, .int d_now_log_many])), (p_now_log_cells, .inl (cI, 48, .inl d_now_log_cells)), (p_now_mounts, .inr (2, [.int d_now_mounts_most, .ref p_now_mounts_cells, .int d_now_mounts_many])), (p_now_mounts_cells, .inl (cI, 48, .inl d_now_mounts_cells))] : va_W) sz)) 0 0 (va_A ([(p_this, .inr (5, [.ref p_text, .ref p_reader, .ref p_told, .ref p_draft, .ref p_now, .ref p_imageZero, .ref p_imageOne, .ref p_slots, .ref p_placesOf, .int d_keptImages, .long d_traced])), (p_now, .inr (0, [.ref p_now_mounts, .ref p_now_lendings, .ref p_now_log, .ref p_now_undos])), (p_now_log, .inr (2, [.int d_now_log_most, .ref p_now_log_cells, .int d_now_log_many])), (p_now_log_cells, .inl (cI, 48, .inl d_now_log_cells)), (p_now_mounts, .inr (2, [.int d_now_mounts_most, .ref p_now_mounts_cells, .int d_now_mounts_many])), (p_now_mounts_cells, .inl (cI, 48, .inl d_now_mounts_cells))] : va_W) sz) := by
  refine Met.ofW (cc := cX5_could) (maxL := 2) (ret := (some .int)) (by decide) rfl ?_
  intro p e s m args below meth c s₁ B hml hv
  obtain ⟨rfl, hsz, hP, hK, hD0, hN⟩ := hv
  have hx := B.exec
  have hb := B.bytes
  have hr := B.returns
  have hts := atoms_spec (ws := wsX5_could) B.pre
  have hown : s.vm.findClass RX5 = some m.cls := findClass_of_methodNamed B.named
  have hlocks := B.notSynchronized
  subst hsz
  have hD := hD0.self (sz := s.heap.size)
  generalize hAe : va_A ([(p_this, .inr (5, [.ref p_text, .ref p_reader, .ref p_told, .ref p_draft, .ref p_now, .ref p_imageZero, .ref p_imageOne, .ref p_slots, .ref p_placesOf, .int d_keptImages, .long d_traced])), (p_now, .inr (0, [.ref p_now_mounts, .ref p_now_lendings, .ref p_now_log, .ref p_now_undos])), (p_now_log, .inr (2, [.int d_now_log_most, .ref p_now_log_cells, .int d_now_log_many])), (p_now_log_cells, .inl (cI, 48, .inl d_now_log_cells)), (p_now_mounts, .inr (2, [.int d_now_mounts_most, .ref p_now_mounts_cells, .int d_now_mounts_many])), (p_now_mounts_cells, .inl (cI, 48, .inl d_now_mounts_cells))] : va_W) s.heap.size = A at hD ⊢
  have hA : ∀ q : Nat, s.heap.size ≤ q → A q := fun q h => by rw [← hAe]; exact Or.inr h
  have hS : va_S A s.heap s.heap [] := va_S.rf
  refine W_abs (fun Q hQ => ?_)
  have hl := lv_entry ([.ref p_this, .int x1]) (n := 2) (Nat.le_of_ble_eq_true rfl)
  rw [lg_entry_eq]
  generalize (lg_sl ([.ref p_this, .int x1]) ++ List.replicate (2 - (lg_sl ([.ref p_this, .int x1])).length) Slot.unset).toArray = ls at hl ⊢
  have hl : lv_has ls 2 [(0, .ref p_this), (1, .int x1)] := hl
  rw [f_X5_could] at hrun
  refine W_start (ws := [(p_this, .inr (5, [.ref p_text, .ref p_reader, .ref p_told, .ref p_draft, .ref p_now, .ref p_imageZero, .ref p_imageOne, .ref p_slots, .ref p_placesOf, .int d_keptImages, .long d_traced])), (p_now, .inr (0, [.ref p_now_mounts, .ref p_now_lendings, .ref p_now_log, .ref p_now_undos])), (p_now_log, .inr (2, [.int d_now_log_most, .ref p_now_log_cells, .int d_now_log_many])), (p_now_log_cells, .inl (cI, 48, .inl d_now_log_cells)), (p_now_mounts, .inr (2, [.int d_now_mounts_most, .ref p_now_mounts_cells, .int d_now_mounts_many])), (p_now_mounts_cells, .inl (cI, 48, .inl d_now_mounts_cells))]) hP hS (fun H locs hP hS => ?_)
  refine lv_iload_n hx hb dX5_could_0 rfl (lv_at hl 1 rfl) ?_
  have hPc : va_P (dC, dI) vwCl [] H := hP.sub [] rfl
  have hDc : va_D A [] := hD.sub [] (by decide) rfl
  have hFc := va_free (wc := []) hD hS hA [] rfl
  refine va_calli (va_runS (As := [.int x1]) (rest := []) ⟨hx, hb, hml, hown, hts⟩ (c_X5_isNote l dC dI cI cZ H.size x1 (f_X5_isNote x1) rfl) (va_cwS 1 hts gX5_could_X5_isNote rfl rfl rfl (by decide +kernel) ⟨Nat.le_of_ble_eq_true rfl, Nat.le_of_ble_eq_true rfl⟩) ⟨fun a U g mk q => ⟨q.1, PC.mv q.2⟩, fun U hU hW => ⟨rfl, PC.of hU hW hPc hK hDc hN⟩⟩ rfl rfl hl.1 rfl (lv_room (Nat.le_of_ble_eq_true rfl)) dX5_could_1 ⟨Nat.zero_le _, Nat.zero_le _⟩) hS (fun q _ h => hFc q h) hFc (fun r_1 u t H1 locs ht hvm hw hB hz1 hk1 hS => ?_)
  obtain ⟨hP1, hD1⟩ := hB
  try dsimp only at hw
  rw [hw]
  rw [ht] at hP1
  have hP : va_P (dC, dI) vwCl [(p_this, .inr (5, [.ref p_text, .ref p_reader, .ref p_told, .ref p_draft, .ref p_now, .ref p_imageZero, .ref p_imageOne, .ref p_slots, .ref p_placesOf, .int d_keptImages, .long d_traced])), (p_now, .inr (0, [.ref p_now_mounts, .ref p_now_lendings, .ref p_now_log, .ref p_now_undos])), (p_now_log, .inr (2, [.int d_now_log_most, .ref p_now_log_cells, .int d_now_log_many])), (p_now_log_cells, .inl (cI, 48, .inl d_now_log_cells)), (p_now_mounts, .inr (2, [.int d_now_mounts_most, .ref p_now_mounts_cells, .int d_now_mounts_many])), (p_now_mounts_cells, .inl (cI, 48, .inl d_now_mounts_cells))] H1 := join_ro hP hD [] rfl hk1 hP1
  clear hPc hDc hFc hk1 hz1 hP1 hD1 ht hvm
  generalize H1 = H at hP hS ⊢
  refine lv_if_eq (tgt := 15) hx hb dX5_could_4 (by decide) (fun c_4 => ?_) (fun c_4 => ?_)
  · rw [if_pos c_4] at hrun
    refine lv_iconst (v := (-1)) hx hb dX5_could_15 (by decide) ?_
    have hrun := Option.some.inj hrun
    subst hrun
    rw [hQ]
    exact W.iret (v := (-1)) hx hb hr (fun t ht hW => ⟨⟨(-1), (), rfl, rfl, by rw [ht]; exact hP, hD⟩, hS.F ht⟩) hS.2.2 dX5_could_16
  · rw [if_neg c_4] at hrun
    refine lv_aload_n hx hb dX5_could_7 rfl (lv_at hl 0 rfl) ?_
    refine lv_iload_n hx hb dX5_could_8 rfl (lv_at hl 1 rfl) ?_
    obtain ⟨q9, hq9, hrun⟩ := bind_out hrun
    have hPc : va_P (dC, dI) vwCl [(p_this, .inr (5, [.ref p_text, .ref p_reader, .ref p_told, .ref p_draft, .ref p_now, .ref p_imageZero, .ref p_imageOne, .ref p_slots, .ref p_placesOf, .int d_keptImages, .long d_traced])), (p_now, .inr (0, [.ref p_now_mounts, .ref p_now_lendings, .ref p_now_log, .ref p_now_undos])), (p_now_log, .inr (2, [.int d_now_log_most, .ref p_now_log_cells, .int d_now_log_many])), (p_now_log_cells, .inl (cI, 48, .inl d_now_log_cells)), (p_now_mounts, .inr (2, [.int d_now_mounts_most, .ref p_now_mounts_cells, .int d_now_mounts_many])), (p_now_mounts_cells, .inl (cI, 48, .inl d_now_mounts_cells))] H := hP.sub [0, 1, 2, 3, 4, 5] rfl
    have hDc : va_D A [(p_this, .inr (5, [.ref p_text, .ref p_reader, .ref p_told, .ref p_draft, .ref p_now, .ref p_imageZero, .ref p_imageOne, .ref p_slots, .ref p_placesOf, .int d_keptImages, .long d_traced])), (p_now, .inr (0, [.ref p_now_mounts, .ref p_now_lendings, .ref p_now_log, .ref p_now_undos])), (p_now_log, .inr (2, [.int d_now_log_most, .ref p_now_log_cells, .int d_now_log_many])), (p_now_log_cells, .inl (cI, 48, .inl d_now_log_cells)), (p_now_mounts, .inr (2, [.int d_now_mounts_most, .ref p_now_mounts_cells, .int d_now_mounts_many])), (p_now_mounts_cells, .inl (cI, 48, .inl d_now_mounts_cells))] := hD.sub [0, 1, 2, 3, 4, 5] (by decide) rfl
    have hFc := va_free (wc := [(p_this, .inr (5, [.ref p_text, .ref p_reader, .ref p_told, .ref p_draft, .ref p_now, .ref p_imageZero, .ref p_imageOne, .ref p_slots, .ref p_placesOf, .int d_keptImages, .long d_traced])), (p_now, .inr (0, [.ref p_now_mounts, .ref p_now_lendings, .ref p_now_log, .ref p_now_undos])), (p_now_log, .inr (2, [.int d_now_log_most, .ref p_now_log_cells, .int d_now_log_many])), (p_now_log_cells, .inl (cI, 48, .inl d_now_log_cells)), (p_now_mounts, .inr (2, [.int d_now_mounts_most, .ref p_now_mounts_cells, .int d_now_mounts_many])), (p_now_mounts_cells, .inl (cI, 48, .inl d_now_mounts_cells))]) hD hS hA [0, 1, 2, 3, 4, 5] rfl
    refine va_calli (va_runV (As := [.int x1]) (rest := []) ⟨hx, hb, hml, hown, hts⟩ (c_X5_speakersThatFit l dC dI cI cZ H.size p_draft p_imageOne p_imageZero p_now p_now_lendings p_now_log p_now_log_cells p_now_mounts p_now_mounts_cells p_now_undos p_placesOf p_reader p_slots p_text p_this p_told d_keptImages d_traced d_now_log_most d_now_log_many d_now_log_cells d_now_mounts_most d_now_mounts_many d_now_mounts_cells x1 q9 hq9) (cwV 1 hts gX5_could_X5_speakersThatFit rfl rfl rfl (by decide +kernel) ⟨Nat.le_of_ble_eq_true rfl, Nat.le_of_ble_eq_true rfl⟩) ⟨fun a U g mk q => ⟨q.1, PC.mv q.2⟩, va_recv hK hP (ci := 5) (q0 := 0) rfl rfl, fun U hU hW => ⟨rfl, PC.of hU hW hPc hK hDc hN⟩⟩ rfl rfl hl.1 rfl (lv_room (Nat.le_of_ble_eq_true rfl)) dX5_could_9 ⟨Nat.zero_le _, Nat.zero_le _⟩) hS (fun q _ h => hFc q h) hFc (fun r_9 u t H1 locs ht hvm hw hB hz1 hk1 hS => ?_)
    obtain ⟨hP1, hD1⟩ := hB
    try dsimp only at hw
    rw [hw]
    rw [ht] at hP1
    have hP : va_P (dC, dI) vwCl [(p_this, .inr (5, [.ref p_text, .ref p_reader, .ref p_told, .ref p_draft, .ref p_now, .ref p_imageZero, .ref p_imageOne, .ref p_slots, .ref p_placesOf, .int d_keptImages, .long d_traced])), (p_now, .inr (0, [.ref p_now_mounts, .ref p_now_lendings, .ref p_now_log, .ref p_now_undos])), (p_now_log, .inr (2, [.int d_now_log_most, .ref p_now_log_cells, .int d_now_log_many])), (p_now_log_cells, .inl (cI, 48, .inl d_now_log_cells)), (p_now_mounts, .inr (2, [.int d_now_mounts_most, .ref p_now_mounts_cells, .int d_now_mounts_many])), (p_now_mounts_cells, .inl (cI, 48, .inl d_now_mounts_cells))] H1 := join_ro hP hD [0, 1, 2, 3, 4, 5] rfl hk1 hP1
    clear hPc hDc hFc hk1 hz1 hP1 hD1 ht hvm
    generalize H1 = H at hP hS ⊢
    refine lv_goto (tgt := 16) hx hb dX5_could_12 (by decide) ?_
    have hrun := Option.some.inj hrun
    subst hrun
    rw [hQ]
    exact W.iret (v := q9) hx hb hr (fun t ht hW => ⟨⟨q9, (), rfl, rfl, by rw [ht]; exact hP, hD⟩, hS.F ht⟩) hS.2.2 dX5_could_16
-- SkyListeners.must
def f_X5_must (d_now_log_many : Int32) (d_now_log_cells : Nat → Int32) (d_now_mounts_many : Int32) (d_now_mounts_cells : Nat → Int32) (x1 : Int32) (x2 : Int32) (x3 : Int32) : Option (Int32) := (if (f_X5_isNote x1) = 0 then (some (-1)) else (if (f_X5_isDish d_now_mounts_many x2) = 0 then (some (-1)) else (if (f_X5_isHour x3) = 0 then (some (-1)) else ((f_X5_speakersThatFit d_now_log_many d_now_log_cells d_now_mounts_many d_now_mounts_cells x1).bind fun q26 => (if q26 = 0 then (some (-9)) else ((f_X0_spansThatFit d_now_log_many d_now_log_cells d_now_mounts_many d_now_mounts_cells x1 (f_X0_placeSeen d_now_mounts_many d_now_mounts_cells x2 x3) (1 <<< (x3 &&& 31))).bind fun q56 => (if q56 = q26 then (some 1) else (if q56 = 0 then (some 0) else (some (-5))))))))))
set_option maxHeartbeats 4000000 in
set_option maxRecDepth 100000 in
theorem c_X5_must (l : Launch) (dC : Nat → ClassId) (dI : Nat → Nat → Nat) (cI cZ : ClassId) (sz : Nat) (p_draft p_imageOne p_imageZero p_now p_now_lendings p_now_log p_now_log_cells p_now_mounts p_now_mounts_cells p_now_undos p_placesOf p_reader p_slots p_text p_this p_told : Nat) (d_keptImages : Int32) (d_traced : Int64) (d_now_log_most : Int32) (d_now_log_many : Int32) (d_now_log_cells : Nat → Int32) (d_now_mounts_most : Int32) (d_now_mounts_many : Int32) (d_now_mounts_cells : Nat → Int32) (x1 : Int32) (x2 : Int32) (x3 : Int32) (out : Int32) (hrun : f_X5_must d_now_log_many d_now_log_cells d_now_mounts_many d_now_mounts_cells x1 x2 x3 = some out) : Met l yX5_must wsX5_must ({ frames := 6, cells := 0, slots := 0, locals := 145 } : Room) (va_Pc [.ref p_this, .int x1, .int x2, .int x3] (PC dC dI cI cZ sz ([(p_this, .inr (5, [.ref p_text, .ref p_reader, .ref p_told, .ref p_draft, .ref p_now, .ref p_imageZero, .ref p_imageOne, .ref p_slots, .ref p_placesOf, .int d_keptImages, .long d_traced])), (p_now, .inr (0, [.ref p_now_mounts, .ref p_now_lendings, .ref p_now_log, .ref p_now_undos])), (p_now_log, .inr (2, [.int d_now_log_most, .ref p_now_log_cells, .int d_now_log_many])), (p_now_log_cells, .inl (cI, 48, .inl d_now_log_cells)), (p_now_mounts, .inr (2, [.int d_now_mounts_most, .ref p_now_mounts_cells, .int d_now_mounts_many])), (p_now_mounts_cells, .inl (cI, 48, .inl d_now_mounts_cells))] : va_W))) (va_Qi (fun r (_ : Unit) => r = out) (fun _ t => va_P (dC, dI) vwCl [(p_this, .inr (5, [.ref p_text, .ref p_reader, .ref p_told, .ref p_draft, .ref p_now, .ref p_imageZero, .ref p_imageOne, .ref p_slots, .ref p_placesOf, .int d_keptImages, .long d_traced])), (p_now, .inr (0, [.ref p_now_mounts, .ref p_now_lendings, .ref p_now_log, .ref p_now_undos])), (p_now_log, .inr (2, [.int d_now_log_most, .ref p_now_log_cells, .int d_now_log_many])), (p_now_log_cells, .inl (cI, 48, .inl d_now_log_cells)), (p_now_mounts, .inr (2, [.int d_now_mounts_most, .ref p_now_mounts_cells, .int d_now_mounts_many])), (p_now_mounts_cells, .inl (cI, 48, .inl d_now_mounts_cells))] t.heap ∧ va_D (va_A ([(p_this, .inr (5, [.ref p_text, .ref p_reader, .ref p_told, .ref p_draft, .ref p_now, .ref p_imageZero, .ref p_imageOne, .ref p_slots, .ref p_placesOf, .int d_keptImages, .long d_traced])), (p_now, .inr (0, [.ref p_now_mounts, .ref p_now_lendings, .ref p_now_log, .ref p_now_undos])), (p_now_log, .inr (2, [.int d_now_log_most, .ref p_now_log_cells, .int d_now_log_many])), (p_now_log_cells, .inl (cI, 48, .inl d_now_log_cells)), (p_now_mounts, .inr (2, [.int d_now_mounts_most, .ref p_now_mounts_cells, .int d_now_mounts_many])), (p_now_mounts_cells, .inl (cI, 48, .inl d_now_mounts_cells))] : va_W) sz) [(p_this, .inr (5, [.ref p_text, .ref p_reader, .ref p_told, .ref p_draft, .ref p_now, .ref p_imageZero, .ref p_imageOne, .ref p_slots, .ref p_placesOf, .int d_keptImages, .long d_traced])), (p_now, .inr (0, [.ref p_now_mounts, .ref p_now_lendings, .ref p_now_log, .ref p_now_undos])), (p_now_log, .inr (2, [.int d_now_log_most, .ref p_now_log_cells, .int d_now_log_many])), (p_now_log_cells, .inl (cI, 48, .inl d_now_log_cells)), (p_now_mounts, .inr (2, [.int d_now_mounts_most, .ref p_now_mounts_cells, .int d_now_mounts_many])), (p_now_mounts_cells, .inl (cI, 48, .inl d_now_mounts_cells))]) (va_A ([(p_this, .inr (5, [.ref p_text, .ref p_reader, .ref p_told, .ref p_draft, .ref p_now, .ref p_imageZero, .ref p_imageOne, .ref p_slots, .ref p_placesOf, .int d_keptImages, .long d_traced])), (p_now, .inr (0, [.ref p_now_mounts, .ref p_now_lendings, .ref p_now_log, .ref p_now_undos])), (p_now_log, .inr (2, [.int d_now_log_most, .ref p_now_log_cells, .int d_now_log_many])), (p_now_log_cells, .inl (cI, 48, .inl d_now_log_cells)), (p_now_mounts, .inr (2, [.int d_now_mounts_most, .ref p_now_mounts_cells, .int d_now_mounts_many])), (p_now_mounts_cells, .inl (cI, 48, .inl d_now_mounts_cells))] : va_W) sz)) 0 0 (va_A ([(p_this, .inr (5, [.ref p_text, .ref p_reader, .ref p_told, .ref p_draft, .ref p_now, .ref p_imageZero, .ref p_imageOne, .ref p_slots, .ref p_placesOf, .int d_keptImages, .long d_traced])), (p_now, .inr (0, [.ref p_now_mounts, .ref p_now_lendings, .ref p_now_log, .ref p_now_undos])), (p_now_log, .inr (2, [.int d_now_log_most, .ref p_now_log_cells, .int d_now_log_many])), (p_now_log_cells, .inl (cI, 48, .inl d_now_log_cells)), (p_now_mounts, .inr (2, [.int d_now_mounts_most, .ref p_now_mounts_cells, .int d_now_mounts_many])), (p_now_mounts_cells, .inl (cI, 48, .inl d_now_mounts_cells))] : va_W) sz) := by
  refine Met.ofW (cc := cX5_must) (maxL := 6) (ret := (some .int)) (by decide) rfl ?_
  intro p e s m args below meth c s₁ B hml hv
  obtain ⟨rfl, hsz, hP, hK, hD0, hN⟩ := hv
  have hx := B.exec
  have hb := B.bytes
  have hr := B.returns
  have hts := atoms_spec (ws := wsX5_must) B.pre
  have hown : s.vm.findClass RX5 = some m.cls := findClass_of_methodNamed B.named
  have hlocks := B.notSynchronized
  subst hsz
  have hD := hD0.self (sz := s.heap.size)
  generalize hAe : va_A ([(p_this, .inr (5, [.ref p_text, .ref p_reader, .ref p_told, .ref p_draft, .ref p_now, .ref p_imageZero, .ref p_imageOne, .ref p_slots, .ref p_placesOf, .int d_keptImages, .long d_traced])), (p_now, .inr (0, [.ref p_now_mounts, .ref p_now_lendings, .ref p_now_log, .ref p_now_undos])), (p_now_log, .inr (2, [.int d_now_log_most, .ref p_now_log_cells, .int d_now_log_many])), (p_now_log_cells, .inl (cI, 48, .inl d_now_log_cells)), (p_now_mounts, .inr (2, [.int d_now_mounts_most, .ref p_now_mounts_cells, .int d_now_mounts_many])), (p_now_mounts_cells, .inl (cI, 48, .inl d_now_mounts_cells))] : va_W) s.heap.size = A at hD ⊢
  have hA : ∀ q : Nat, s.heap.size ≤ q → A q := fun q h => by rw [← hAe]; exact Or.inr h
  have hS : va_S A s.heap s.heap [] := va_S.rf
  refine W_abs (fun Q hQ => ?_)
  have hl := lv_entry ([.ref p_this, .int x1, .int x2, .int x3]) (n := 6) (Nat.le_of_ble_eq_true rfl)
  rw [lg_entry_eq]
  generalize (lg_sl ([.ref p_this, .int x1, .int x2, .int x3]) ++ List.replicate (6 - (lg_sl ([.ref p_this, .int x1, .int x2, .int x3])).length) Slot.unset).toArray = ls at hl ⊢
  have hl : lv_has ls 6 [(0, .ref p_this), (1, .int x1), (2, .int x2), (3, .int x3)] := hl
  rw [f_X5_must] at hrun
  refine W_start (ws := [(p_this, .inr (5, [.ref p_text, .ref p_reader, .ref p_told, .ref p_draft, .ref p_now, .ref p_imageZero, .ref p_imageOne, .ref p_slots, .ref p_placesOf, .int d_keptImages, .long d_traced])), (p_now, .inr (0, [.ref p_now_mounts, .ref p_now_lendings, .ref p_now_log, .ref p_now_undos])), (p_now_log, .inr (2, [.int d_now_log_most, .ref p_now_log_cells, .int d_now_log_many])), (p_now_log_cells, .inl (cI, 48, .inl d_now_log_cells)), (p_now_mounts, .inr (2, [.int d_now_mounts_most, .ref p_now_mounts_cells, .int d_now_mounts_many])), (p_now_mounts_cells, .inl (cI, 48, .inl d_now_mounts_cells))]) hP hS (fun H locs hP hS => ?_)
  have iwX5 : ∀ w ∈ wsX50, w ∈ wsX5_must := by decide +kernel
  refine lv_iload_n hx hb dX5_must_0 rfl (lv_at hl 1 rfl) ?_
  have hPc : va_P (dC, dI) vwCl [] H := hP.sub [] rfl
  have hDc : va_D A [] := hD.sub [] (by decide) rfl
  have hFc := va_free (wc := []) hD hS hA [] rfl
  refine va_calli (va_runS (As := [.int x1]) (rest := []) ⟨hx, hb, hml, hown, hts⟩ (c_X5_isNote l dC dI cI cZ H.size x1 (f_X5_isNote x1) rfl) (va_cwS 1 hts gX5_must_X5_isNote rfl rfl rfl (by decide +kernel) ⟨Nat.le_of_ble_eq_true rfl, Nat.le_of_ble_eq_true rfl⟩) ⟨fun a U g mk q => ⟨q.1, PC.mv q.2⟩, fun U hU hW => ⟨rfl, PC.of hU hW hPc hK hDc hN⟩⟩ rfl rfl hl.1 rfl (lv_room (Nat.le_of_ble_eq_true rfl)) dX5_must_1 ⟨Nat.zero_le _, Nat.zero_le _⟩) hS (fun q _ h => hFc q h) hFc (fun r_1 u t H1 locs ht hvm hw hB hz1 hk1 hS => ?_)
  obtain ⟨hP1, hD1⟩ := hB
  try dsimp only at hw
  rw [hw]
  rw [ht] at hP1
  have hP : va_P (dC, dI) vwCl [(p_this, .inr (5, [.ref p_text, .ref p_reader, .ref p_told, .ref p_draft, .ref p_now, .ref p_imageZero, .ref p_imageOne, .ref p_slots, .ref p_placesOf, .int d_keptImages, .long d_traced])), (p_now, .inr (0, [.ref p_now_mounts, .ref p_now_lendings, .ref p_now_log, .ref p_now_undos])), (p_now_log, .inr (2, [.int d_now_log_most, .ref p_now_log_cells, .int d_now_log_many])), (p_now_log_cells, .inl (cI, 48, .inl d_now_log_cells)), (p_now_mounts, .inr (2, [.int d_now_mounts_most, .ref p_now_mounts_cells, .int d_now_mounts_many])), (p_now_mounts_cells, .inl (cI, 48, .inl d_now_mounts_cells))] H1 := join_ro hP hD [] rfl hk1 hP1
  clear hPc hDc hFc hk1 hz1 hP1 hD1 ht hvm
  generalize H1 = H at hP hS ⊢
  refine lv_if_eq (tgt := 22) hx hb dX5_must_4 (by decide) (fun c_4 => ?_) (fun c_4 => ?_)
  · rw [if_pos c_4] at hrun
    refine lv_iconst (v := (-1)) hx hb dX5_must_22 (by decide) ?_
    have hrun := Option.some.inj hrun
    subst hrun
    rw [hQ]
    exact W.iret (v := (-1)) hx hb hr (fun t ht hW => ⟨⟨(-1), (), rfl, rfl, by rw [ht]; exact hP, hD⟩, hS.F ht⟩) hS.2.2 dX5_must_23
  · rw [if_neg c_4] at hrun
    refine lv_aload_n hx hb dX5_must_7 rfl (lv_at hl 0 rfl) ?_
    refine lv_iload_n hx hb dX5_must_8 rfl (lv_at hl 2 rfl) ?_
    have hPc : va_P (dC, dI) vwCl [(p_this, .inr (5, [.ref p_text, .ref p_reader, .ref p_told, .ref p_draft, .ref p_now, .ref p_imageZero, .ref p_imageOne, .ref p_slots, .ref p_placesOf, .int d_keptImages, .long d_traced])), (p_now, .inr (0, [.ref p_now_mounts, .ref p_now_lendings, .ref p_now_log, .ref p_now_undos])), (p_now_mounts, .inr (2, [.int d_now_mounts_most, .ref p_now_mounts_cells, .int d_now_mounts_many]))] H := hP.sub [0, 1, 4] rfl
    have hDc : va_D A [(p_this, .inr (5, [.ref p_text, .ref p_reader, .ref p_told, .ref p_draft, .ref p_now, .ref p_imageZero, .ref p_imageOne, .ref p_slots, .ref p_placesOf, .int d_keptImages, .long d_traced])), (p_now, .inr (0, [.ref p_now_mounts, .ref p_now_lendings, .ref p_now_log, .ref p_now_undos])), (p_now_mounts, .inr (2, [.int d_now_mounts_most, .ref p_now_mounts_cells, .int d_now_mounts_many]))] := hD.sub [0, 1, 4] (by decide) rfl
    have hFc := va_free (wc := [(p_this, .inr (5, [.ref p_text, .ref p_reader, .ref p_told, .ref p_draft, .ref p_now, .ref p_imageZero, .ref p_imageOne, .ref p_slots, .ref p_placesOf, .int d_keptImages, .long d_traced])), (p_now, .inr (0, [.ref p_now_mounts, .ref p_now_lendings, .ref p_now_log, .ref p_now_undos])), (p_now_mounts, .inr (2, [.int d_now_mounts_most, .ref p_now_mounts_cells, .int d_now_mounts_many]))]) hD hS hA [0, 1, 4] rfl
    refine va_calli (va_runV (As := [.int x2]) (rest := []) ⟨hx, hb, hml, hown, hts⟩ (c_X5_isDish l dC dI cI cZ H.size p_draft p_imageOne p_imageZero p_now p_now_lendings p_now_log p_now_mounts p_now_mounts_cells p_now_undos p_placesOf p_reader p_slots p_text p_this p_told d_keptImages d_traced d_now_mounts_most d_now_mounts_many x2 (f_X5_isDish d_now_mounts_many x2) rfl) (cwV 1 hts gX5_must_X5_isDish rfl rfl rfl (by decide +kernel) ⟨Nat.le_of_ble_eq_true rfl, Nat.le_of_ble_eq_true rfl⟩) ⟨fun a U g mk q => ⟨q.1, PC.mv q.2⟩, va_recv hK hP (ci := 5) (q0 := 0) rfl rfl, fun U hU hW => ⟨rfl, PC.of hU hW hPc hK hDc hN⟩⟩ rfl rfl hl.1 rfl (lv_room (Nat.le_of_ble_eq_true rfl)) dX5_must_9 ⟨Nat.zero_le _, Nat.zero_le _⟩) hS (fun q _ h => hFc q h) hFc (fun r_9 u t H1 locs ht hvm hw hB hz1 hk1 hS => ?_)
    obtain ⟨hP1, hD1⟩ := hB
    try dsimp only at hw
    rw [hw]
    rw [ht] at hP1
    have hP : va_P (dC, dI) vwCl [(p_this, .inr (5, [.ref p_text, .ref p_reader, .ref p_told, .ref p_draft, .ref p_now, .ref p_imageZero, .ref p_imageOne, .ref p_slots, .ref p_placesOf, .int d_keptImages, .long d_traced])), (p_now, .inr (0, [.ref p_now_mounts, .ref p_now_lendings, .ref p_now_log, .ref p_now_undos])), (p_now_log, .inr (2, [.int d_now_log_most, .ref p_now_log_cells, .int d_now_log_many])), (p_now_log_cells, .inl (cI, 48, .inl d_now_log_cells)), (p_now_mounts, .inr (2, [.int d_now_mounts_most, .ref p_now_mounts_cells, .int d_now_mounts_many])), (p_now_mounts_cells, .inl (cI, 48, .inl d_now_mounts_cells))] H1 := join_ro hP hD [0, 1, 4] rfl hk1 hP1
    clear hPc hDc hFc hk1 hz1 hP1 hD1 ht hvm
    generalize H1 = H at hP hS ⊢
    refine lv_if_eq (tgt := 22) hx hb dX5_must_12 (by decide) (fun c_12 => ?_) (fun c_12 => ?_)
    · rw [if_pos c_12] at hrun
      refine lv_iconst (v := (-1)) hx hb dX5_must_22 (by decide) ?_
      have hrun := Option.some.inj hrun
      subst hrun
      rw [hQ]
      exact W.iret (v := (-1)) hx hb hr (fun t ht hW => ⟨⟨(-1), (), rfl, rfl, by rw [ht]; exact hP, hD⟩, hS.F ht⟩) hS.2.2 dX5_must_23
    · rw [if_neg c_12] at hrun
      refine lv_iload_n hx hb dX5_must_15 rfl (lv_at hl 3 rfl) ?_
      have hPc : va_P (dC, dI) vwCl [] H := hP.sub [] rfl
      have hDc : va_D A [] := hD.sub [] (by decide) rfl
      have hFc := va_free (wc := []) hD hS hA [] rfl
      refine va_calli (va_runS (As := [.int x3]) (rest := []) ⟨hx, hb, hml, hown, hts⟩ (c_X5_isHour l dC dI cI cZ H.size x3 (f_X5_isHour x3) rfl) (va_cwS 1 hts gX5_must_X5_isHour rfl rfl rfl (by decide +kernel) ⟨Nat.le_of_ble_eq_true rfl, Nat.le_of_ble_eq_true rfl⟩) ⟨fun a U g mk q => ⟨q.1, PC.mv q.2⟩, fun U hU hW => ⟨rfl, PC.of hU hW hPc hK hDc hN⟩⟩ rfl rfl hl.1 rfl (lv_room (Nat.le_of_ble_eq_true rfl)) dX5_must_16 ⟨Nat.zero_le _, Nat.zero_le _⟩) hS (fun q _ h => hFc q h) hFc (fun r_16 u t H1 locs ht hvm hw hB hz1 hk1 hS => ?_)
      obtain ⟨hP1, hD1⟩ := hB
      try dsimp only at hw
      rw [hw]
      rw [ht] at hP1
      have hP : va_P (dC, dI) vwCl [(p_this, .inr (5, [.ref p_text, .ref p_reader, .ref p_told, .ref p_draft, .ref p_now, .ref p_imageZero, .ref p_imageOne, .ref p_slots, .ref p_placesOf, .int d_keptImages, .long d_traced])), (p_now, .inr (0, [.ref p_now_mounts, .ref p_now_lendings, .ref p_now_log, .ref p_now_undos])), (p_now_log, .inr (2, [.int d_now_log_most, .ref p_now_log_cells, .int d_now_log_many])), (p_now_log_cells, .inl (cI, 48, .inl d_now_log_cells)), (p_now_mounts, .inr (2, [.int d_now_mounts_most, .ref p_now_mounts_cells, .int d_now_mounts_many])), (p_now_mounts_cells, .inl (cI, 48, .inl d_now_mounts_cells))] H1 := join_ro hP hD [] rfl hk1 hP1
      clear hPc hDc hFc hk1 hz1 hP1 hD1 ht hvm
      generalize H1 = H at hP hS ⊢
      refine lv_if_ne (tgt := 24) hx hb dX5_must_19 (by decide) (fun c_19 => ?_) (fun c_19 => ?_)
      · rw [if_neg c_19] at hrun
        refine lv_aload_n hx hb dX5_must_24 rfl (lv_at hl 0 rfl) ?_
        refine lv_iload_n hx hb dX5_must_25 rfl (lv_at hl 1 rfl) ?_
        obtain ⟨q26, hq26, hrun⟩ := bind_out hrun
        have hPc : va_P (dC, dI) vwCl [(p_this, .inr (5, [.ref p_text, .ref p_reader, .ref p_told, .ref p_draft, .ref p_now, .ref p_imageZero, .ref p_imageOne, .ref p_slots, .ref p_placesOf, .int d_keptImages, .long d_traced])), (p_now, .inr (0, [.ref p_now_mounts, .ref p_now_lendings, .ref p_now_log, .ref p_now_undos])), (p_now_log, .inr (2, [.int d_now_log_most, .ref p_now_log_cells, .int d_now_log_many])), (p_now_log_cells, .inl (cI, 48, .inl d_now_log_cells)), (p_now_mounts, .inr (2, [.int d_now_mounts_most, .ref p_now_mounts_cells, .int d_now_mounts_many])), (p_now_mounts_cells, .inl (cI, 48, .inl d_now_mounts_cells))] H := hP.sub [0, 1, 2, 3, 4, 5] rfl
        have hDc : va_D A [(p_this, .inr (5, [.ref p_text, .ref p_reader, .ref p_told, .ref p_draft, .ref p_now, .ref p_imageZero, .ref p_imageOne, .ref p_slots, .ref p_placesOf, .int d_keptImages, .long d_traced])), (p_now, .inr (0, [.ref p_now_mounts, .ref p_now_lendings, .ref p_now_log, .ref p_now_undos])), (p_now_log, .inr (2, [.int d_now_log_most, .ref p_now_log_cells, .int d_now_log_many])), (p_now_log_cells, .inl (cI, 48, .inl d_now_log_cells)), (p_now_mounts, .inr (2, [.int d_now_mounts_most, .ref p_now_mounts_cells, .int d_now_mounts_many])), (p_now_mounts_cells, .inl (cI, 48, .inl d_now_mounts_cells))] := hD.sub [0, 1, 2, 3, 4, 5] (by decide) rfl
        have hFc := va_free (wc := [(p_this, .inr (5, [.ref p_text, .ref p_reader, .ref p_told, .ref p_draft, .ref p_now, .ref p_imageZero, .ref p_imageOne, .ref p_slots, .ref p_placesOf, .int d_keptImages, .long d_traced])), (p_now, .inr (0, [.ref p_now_mounts, .ref p_now_lendings, .ref p_now_log, .ref p_now_undos])), (p_now_log, .inr (2, [.int d_now_log_most, .ref p_now_log_cells, .int d_now_log_many])), (p_now_log_cells, .inl (cI, 48, .inl d_now_log_cells)), (p_now_mounts, .inr (2, [.int d_now_mounts_most, .ref p_now_mounts_cells, .int d_now_mounts_many])), (p_now_mounts_cells, .inl (cI, 48, .inl d_now_mounts_cells))]) hD hS hA [0, 1, 2, 3, 4, 5] rfl
        refine va_calli (va_runV (As := [.int x1]) (rest := []) ⟨hx, hb, hml, hown, hts⟩ (c_X5_speakersThatFit l dC dI cI cZ H.size p_draft p_imageOne p_imageZero p_now p_now_lendings p_now_log p_now_log_cells p_now_mounts p_now_mounts_cells p_now_undos p_placesOf p_reader p_slots p_text p_this p_told d_keptImages d_traced d_now_log_most d_now_log_many d_now_log_cells d_now_mounts_most d_now_mounts_many d_now_mounts_cells x1 q26 hq26) (cwV 1 hts gX5_must_X5_speakersThatFit rfl rfl rfl (by decide +kernel) ⟨Nat.le_of_ble_eq_true rfl, Nat.le_of_ble_eq_true rfl⟩) ⟨fun a U g mk q => ⟨q.1, PC.mv q.2⟩, va_recv hK hP (ci := 5) (q0 := 0) rfl rfl, fun U hU hW => ⟨rfl, PC.of hU hW hPc hK hDc hN⟩⟩ rfl rfl hl.1 rfl (lv_room (Nat.le_of_ble_eq_true rfl)) dX5_must_26 ⟨Nat.zero_le _, Nat.zero_le _⟩) hS (fun q _ h => hFc q h) hFc (fun r_26 u t H1 locs ht hvm hw hB hz1 hk1 hS => ?_)
        obtain ⟨hP1, hD1⟩ := hB
        try dsimp only at hw
        rw [hw]
        rw [ht] at hP1
        have hP : va_P (dC, dI) vwCl [(p_this, .inr (5, [.ref p_text, .ref p_reader, .ref p_told, .ref p_draft, .ref p_now, .ref p_imageZero, .ref p_imageOne, .ref p_slots, .ref p_placesOf, .int d_keptImages, .long d_traced])), (p_now, .inr (0, [.ref p_now_mounts, .ref p_now_lendings, .ref p_now_log, .ref p_now_undos])), (p_now_log, .inr (2, [.int d_now_log_most, .ref p_now_log_cells, .int d_now_log_many])), (p_now_log_cells, .inl (cI, 48, .inl d_now_log_cells)), (p_now_mounts, .inr (2, [.int d_now_mounts_most, .ref p_now_mounts_cells, .int d_now_mounts_many])), (p_now_mounts_cells, .inl (cI, 48, .inl d_now_mounts_cells))] H1 := join_ro hP hD [0, 1, 2, 3, 4, 5] rfl hk1 hP1
        clear hPc hDc hFc hk1 hz1 hP1 hD1 ht hvm
        generalize H1 = H at hP hS ⊢
        refine lv_istore (lv' := [(4, .int q26), (0, .ref p_this), (1, .int x1), (2, .int x2), (3, .int x3)]) hx hb dX5_must_29 hl (by decide) rfl (fun ls hl => ?_)
        refine lv_iload hx hb dX5_must_31 (lv_at hl 0 rfl) ?_
        refine lv_if_ne (tgt := 39) hx hb dX5_must_33 (by decide) (fun c_33 => ?_) (fun c_33 => ?_)
        · rw [if_neg c_33] at hrun
          refine lv_aload_n hx hb dX5_must_39 rfl (lv_at hl 1 rfl) ?_
          refine va_get (D := (dC, dI)) (ci := 5) (v := .ref p_now) (C := RX5) (T := TX5) (N := 11) hx hb hts iwX5 hown hK hP 0 rfl rfl 4 (by decide) (hts (.fieldLink RX5 36 "SkyListeners" "now" "LSkyListeners$Now;") (by decide +kernel)) (fun _ h9 => h9) rfl dX5_must_40 ?_
          refine lv_iload_n hx hb dX5_must_43 rfl (lv_at hl 2 rfl) ?_
          refine lv_aload_n hx hb dX5_must_44 rfl (lv_at hl 1 rfl) ?_
          refine va_get (D := (dC, dI)) (ci := 5) (v := .ref p_now) (C := RX5) (T := TX5) (N := 11) hx hb hts iwX5 hown hK hP 0 rfl rfl 4 (by decide) (hts (.fieldLink RX5 36 "SkyListeners" "now" "LSkyListeners$Now;") (by decide +kernel)) (fun _ h9 => h9) rfl dX5_must_45 ?_
          refine lv_iload_n hx hb dX5_must_48 rfl (lv_at hl 3 rfl) ?_
          refine lv_iload_n hx hb dX5_must_49 rfl (lv_at hl 4 rfl) ?_
          have hPc : va_P (dC, dI) vwCl [(p_now, .inr (0, [.ref p_now_mounts, .ref p_now_lendings, .ref p_now_log, .ref p_now_undos])), (p_now_mounts, .inr (2, [.int d_now_mounts_most, .ref p_now_mounts_cells, .int d_now_mounts_many])), (p_now_mounts_cells, .inl (cI, 48, .inl d_now_mounts_cells))] H := hP.sub [1, 4, 5] rfl
          have hDc : va_D A [(p_now, .inr (0, [.ref p_now_mounts, .ref p_now_lendings, .ref p_now_log, .ref p_now_undos])), (p_now_mounts, .inr (2, [.int d_now_mounts_most, .ref p_now_mounts_cells, .int d_now_mounts_many])), (p_now_mounts_cells, .inl (cI, 48, .inl d_now_mounts_cells))] := hD.sub [1, 4, 5] (by decide) rfl
          have hFc := va_free (wc := [(p_now, .inr (0, [.ref p_now_mounts, .ref p_now_lendings, .ref p_now_log, .ref p_now_undos])), (p_now_mounts, .inr (2, [.int d_now_mounts_most, .ref p_now_mounts_cells, .int d_now_mounts_many])), (p_now_mounts_cells, .inl (cI, 48, .inl d_now_mounts_cells))]) hD hS hA [1, 4, 5] rfl
          refine va_calli (va_runV (As := [.int x2, .int x3]) (rest := [.int x1, .ref p_now]) ⟨hx, hb, hml, hown, hts⟩ (c_X0_placeSeen l dC dI cI cZ H.size p_now_lendings p_now_log p_now_mounts p_now_mounts_cells p_now p_now_undos d_now_mounts_most d_now_mounts_many d_now_mounts_cells x2 x3 (f_X0_placeSeen d_now_mounts_many d_now_mounts_cells x2 x3) rfl) (cwV 2 hts gX5_must_X0_placeSeen rfl rfl rfl (by decide +kernel) ⟨Nat.le_of_ble_eq_true rfl, Nat.le_of_ble_eq_true rfl⟩) ⟨fun a U g mk q => ⟨q.1, PC.mv q.2⟩, va_recv hK hP (ci := 0) (q0 := 1) rfl rfl, fun U hU hW => ⟨rfl, PC.of hU hW hPc hK hDc hN⟩⟩ rfl rfl hl.1 rfl (lv_room (Nat.le_of_ble_eq_true rfl)) dX5_must_50 ⟨Nat.zero_le _, Nat.zero_le _⟩) hS (fun q _ h => hFc q h) hFc (fun r_50 u t H1 locs ht hvm hw hB hz1 hk1 hS => ?_)
          obtain ⟨hP1, hD1⟩ := hB
          try dsimp only at hw
          rw [hw]
          rw [ht] at hP1
          have hP : va_P (dC, dI) vwCl [(p_this, .inr (5, [.ref p_text, .ref p_reader, .ref p_told, .ref p_draft, .ref p_now, .ref p_imageZero, .ref p_imageOne, .ref p_slots, .ref p_placesOf, .int d_keptImages, .long d_traced])), (p_now, .inr (0, [.ref p_now_mounts, .ref p_now_lendings, .ref p_now_log, .ref p_now_undos])), (p_now_log, .inr (2, [.int d_now_log_most, .ref p_now_log_cells, .int d_now_log_many])), (p_now_log_cells, .inl (cI, 48, .inl d_now_log_cells)), (p_now_mounts, .inr (2, [.int d_now_mounts_most, .ref p_now_mounts_cells, .int d_now_mounts_many])), (p_now_mounts_cells, .inl (cI, 48, .inl d_now_mounts_cells))] H1 := join_ro hP hD [1, 4, 5] rfl hk1 hP1
          clear hPc hDc hFc hk1 hz1 hP1 hD1 ht hvm
          generalize H1 = H at hP hS ⊢
          refine lv_iconst (v := 1) hx hb dX5_must_53 (by decide) ?_
          refine lv_iload_n hx hb dX5_must_54 rfl (lv_at hl 4 rfl) ?_
          refine lv_ishl hx hb dX5_must_55 ?_
          obtain ⟨q56, hq56, hrun⟩ := bind_out hrun
          have hPc : va_P (dC, dI) vwCl [(p_now, .inr (0, [.ref p_now_mounts, .ref p_now_lendings, .ref p_now_log, .ref p_now_undos])), (p_now_log, .inr (2, [.int d_now_log_most, .ref p_now_log_cells, .int d_now_log_many])), (p_now_log_cells, .inl (cI, 48, .inl d_now_log_cells)), (p_now_mounts, .inr (2, [.int d_now_mounts_most, .ref p_now_mounts_cells, .int d_now_mounts_many])), (p_now_mounts_cells, .inl (cI, 48, .inl d_now_mounts_cells))] H := hP.sub [1, 2, 3, 4, 5] rfl
          have hDc : va_D A [(p_now, .inr (0, [.ref p_now_mounts, .ref p_now_lendings, .ref p_now_log, .ref p_now_undos])), (p_now_log, .inr (2, [.int d_now_log_most, .ref p_now_log_cells, .int d_now_log_many])), (p_now_log_cells, .inl (cI, 48, .inl d_now_log_cells)), (p_now_mounts, .inr (2, [.int d_now_mounts_most, .ref p_now_mounts_cells, .int d_now_mounts_many])), (p_now_mounts_cells, .inl (cI, 48, .inl d_now_mounts_cells))] := hD.sub [1, 2, 3, 4, 5] (by decide) rfl
          have hFc := va_free (wc := [(p_now, .inr (0, [.ref p_now_mounts, .ref p_now_lendings, .ref p_now_log, .ref p_now_undos])), (p_now_log, .inr (2, [.int d_now_log_most, .ref p_now_log_cells, .int d_now_log_many])), (p_now_log_cells, .inl (cI, 48, .inl d_now_log_cells)), (p_now_mounts, .inr (2, [.int d_now_mounts_most, .ref p_now_mounts_cells, .int d_now_mounts_many])), (p_now_mounts_cells, .inl (cI, 48, .inl d_now_mounts_cells))]) hD hS hA [1, 2, 3, 4, 5] rfl
          refine va_calli (va_runV (As := [.int x1, .int (f_X0_placeSeen d_now_mounts_many d_now_mounts_cells x2 x3), .int (1 <<< (x3 &&& 31))]) (rest := []) ⟨hx, hb, hml, hown, hts⟩ (c_X0_spansThatFit l dC dI cI cZ H.size p_now_lendings p_now_log p_now_log_cells p_now_mounts p_now_mounts_cells p_now p_now_undos d_now_log_most d_now_log_many d_now_log_cells d_now_mounts_most d_now_mounts_many d_now_mounts_cells x1 (f_X0_placeSeen d_now_mounts_many d_now_mounts_cells x2 x3) (1 <<< (x3 &&& 31)) q56 hq56) (cwV 3 hts gX5_must_X0_spansThatFit rfl rfl rfl (by decide +kernel) ⟨Nat.le_of_ble_eq_true rfl, Nat.le_of_ble_eq_true rfl⟩) ⟨fun a U g mk q => ⟨q.1, PC.mv q.2⟩, va_recv hK hP (ci := 0) (q0 := 1) rfl rfl, fun U hU hW => ⟨rfl, PC.of hU hW hPc hK hDc hN⟩⟩ rfl rfl hl.1 rfl (lv_room (Nat.le_of_ble_eq_true rfl)) dX5_must_56 ⟨Nat.zero_le _, Nat.zero_le _⟩) hS (fun q _ h => hFc q h) hFc (fun r_56 u t H1 locs ht hvm hw hB hz1 hk1 hS => ?_)
          obtain ⟨hP1, hD1⟩ := hB
          try dsimp only at hw
          rw [hw]
          rw [ht] at hP1
          have hP : va_P (dC, dI) vwCl [(p_this, .inr (5, [.ref p_text, .ref p_reader, .ref p_told, .ref p_draft, .ref p_now, .ref p_imageZero, .ref p_imageOne, .ref p_slots, .ref p_placesOf, .int d_keptImages, .long d_traced])), (p_now, .inr (0, [.ref p_now_mounts, .ref p_now_lendings, .ref p_now_log, .ref p_now_undos])), (p_now_log, .inr (2, [.int d_now_log_most, .ref p_now_log_cells, .int d_now_log_many])), (p_now_log_cells, .inl (cI, 48, .inl d_now_log_cells)), (p_now_mounts, .inr (2, [.int d_now_mounts_most, .ref p_now_mounts_cells, .int d_now_mounts_many])), (p_now_mounts_cells, .inl (cI, 48, .inl d_now_mounts_cells))] H1 := join_ro hP hD [1, 2, 3, 4, 5] rfl hk1 hP1
          clear hPc hDc hFc hk1 hz1 hP1 hD1 ht hvm
          generalize H1 = H at hP hS ⊢
          refine lv_istore (lv' := [(5, .int q56), (4, .int q26), (0, .ref p_this), (1, .int x1), (2, .int x2), (3, .int x3)]) hx hb dX5_must_59 hl (by decide) rfl (fun ls hl => ?_)
          refine lv_iload hx hb dX5_must_61 (lv_at hl 0 rfl) ?_
          refine lv_iload hx hb dX5_must_63 (lv_at hl 1 rfl) ?_
          refine lv_icmp_ne (tgt := 72) hx hb dX5_must_65 (by decide) (fun c_65 => ?_) (fun c_65 => ?_)
          · rw [if_neg c_65] at hrun
            refine lv_iload hx hb dX5_must_72 (lv_at hl 0 rfl) ?_
            refine lv_if_ne (tgt := 81) hx hb dX5_must_74 (by decide) (fun c_74 => ?_) (fun c_74 => ?_)
            · rw [if_neg c_74] at hrun
              refine lv_bipush (v := (-5)) hx hb dX5_must_81 (by decide) ?_
              have hrun := Option.some.inj hrun
              subst hrun
              rw [hQ]
              exact W.iret (v := (-5)) hx hb hr (fun t ht hW => ⟨⟨(-5), (), rfl, rfl, by rw [ht]; exact hP, hD⟩, hS.F ht⟩) hS.2.2 dX5_must_83
            · rw [if_pos c_74] at hrun
              refine lv_iconst (v := 0) hx hb dX5_must_77 (by decide) ?_
              refine lv_goto (tgt := 83) hx hb dX5_must_78 (by decide) ?_
              have hrun := Option.some.inj hrun
              subst hrun
              rw [hQ]
              exact W.iret (v := 0) hx hb hr (fun t ht hW => ⟨⟨0, (), rfl, rfl, by rw [ht]; exact hP, hD⟩, hS.F ht⟩) hS.2.2 dX5_must_83
          · rw [if_pos c_65] at hrun
            refine lv_iconst (v := 1) hx hb dX5_must_68 (by decide) ?_
            refine lv_goto (tgt := 83) hx hb dX5_must_69 (by decide) ?_
            have hrun := Option.some.inj hrun
            subst hrun
            rw [hQ]
            exact W.iret (v := 1) hx hb hr (fun t ht hW => ⟨⟨1, (), rfl, rfl, by rw [ht]; exact hP, hD⟩, hS.F ht⟩) hS.2.2 dX5_must_83
        · rw [if_pos c_33] at hrun
          refine lv_bipush (v := (-9)) hx hb dX5_must_36 (by decide) ?_
          have hrun := Option.some.inj hrun
          subst hrun
          rw [hQ]
          exact W.iret (v := (-9)) hx hb hr (fun t ht hW => ⟨⟨(-9), (), rfl, rfl, by rw [ht]; exact hP, hD⟩, hS.F ht⟩) hS.2.2 dX5_must_38
      · rw [if_pos c_19] at hrun
        refine lv_iconst (v := (-1)) hx hb dX5_must_22 (by decide) ?_
        have hrun := Option.some.inj hrun
        subst hrun
        rw [hQ]
        exact W.iret (v := (-1)) hx hb hr (fun t ht hW => ⟨⟨(-1), (), rfl, rfl, by rw [ht]; exact hP, hD⟩, hS.F ht⟩) hS.2.2 dX5_must_23
-- SkyListeners.second
def f_X5_second_J76 (K33 : Int32 → Int32 → Option (Int32)) (x1 : Int32) (x2 : Int32) (x3 : Int32) (x5 : Int32) (d_now_mounts_many : Int32) (d_now_mounts_cells : Nat → Int32) (x4 : Int32) : Option (Int32) := (K33 x4 (x5 + 1))
def f_X5_second_L33 (x1 : Int32) (x2 : Int32) (x3 : Int32) (d_now_mounts_many : Int32) (d_now_mounts_cells : Nat → Int32) : Nat → Int32 → Int32 → Option (Int32)
  | 0, _, _ => none
  | n9 + 1, x4, x5 => (if d_now_mounts_many ≤ x5 then (some x4) else (if x5 = x1 then (f_X5_second_J76 (f_X5_second_L33  x1 x2 x3 d_now_mounts_many d_now_mounts_cells n9) x1 x2 x3 x5 d_now_mounts_many d_now_mounts_cells x4) else ((f_X0_placesSeen d_now_mounts_many d_now_mounts_cells x5 x2 23).bind fun q63 => (if (f_X5_hasBit q63 x3) = 0 then (f_X5_second_J76 (f_X5_second_L33  x1 x2 x3 d_now_mounts_many d_now_mounts_cells n9) x1 x2 x3 x5 d_now_mounts_many d_now_mounts_cells x4) else (f_X5_second_J76 (f_X5_second_L33  x1 x2 x3 d_now_mounts_many d_now_mounts_cells n9) x1 x2 x3 x5 d_now_mounts_many d_now_mounts_cells (x4 + 1))))))
def f_X5_second (d_now_mounts_many : Int32) (d_now_mounts_cells : Nat → Int32) (x1 : Int32) (x2 : Int32) : Option (Int32) := (if (f_X5_isDish d_now_mounts_many x1) = 0 then (some (-1)) else (if (f_X5_isHour x2) = 0 then (some (-1)) else (f_X5_second_L33 x1 x2 (f_X0_placeSeen d_now_mounts_many d_now_mounts_cells x1 x2) d_now_mounts_many d_now_mounts_cells FU 0 0)))
set_option maxHeartbeats 4000000 in
set_option maxRecDepth 100000 in
theorem c_X5_second (l : Launch) (dC : Nat → ClassId) (dI : Nat → Nat → Nat) (cI cZ : ClassId) (sz : Nat) (p_draft p_imageOne p_imageZero p_now p_now_lendings p_now_log p_now_mounts p_now_mounts_cells p_now_undos p_placesOf p_reader p_slots p_text p_this p_told : Nat) (d_keptImages : Int32) (d_traced : Int64) (d_now_mounts_most : Int32) (d_now_mounts_many : Int32) (d_now_mounts_cells : Nat → Int32) (x1 : Int32) (x2 : Int32) (out : Int32) (hrun : f_X5_second d_now_mounts_many d_now_mounts_cells x1 x2 = some out) : Met l yX5_second wsX5_second ({ frames := 4, cells := 0, slots := 0, locals := 91 } : Room) (va_Pc [.ref p_this, .int x1, .int x2] (PC dC dI cI cZ sz ([(p_this, .inr (5, [.ref p_text, .ref p_reader, .ref p_told, .ref p_draft, .ref p_now, .ref p_imageZero, .ref p_imageOne, .ref p_slots, .ref p_placesOf, .int d_keptImages, .long d_traced])), (p_now, .inr (0, [.ref p_now_mounts, .ref p_now_lendings, .ref p_now_log, .ref p_now_undos])), (p_now_mounts, .inr (2, [.int d_now_mounts_most, .ref p_now_mounts_cells, .int d_now_mounts_many])), (p_now_mounts_cells, .inl (cI, 48, .inl d_now_mounts_cells))] : va_W))) (va_Qi (fun r (_ : Unit) => r = out) (fun _ t => va_P (dC, dI) vwCl [(p_this, .inr (5, [.ref p_text, .ref p_reader, .ref p_told, .ref p_draft, .ref p_now, .ref p_imageZero, .ref p_imageOne, .ref p_slots, .ref p_placesOf, .int d_keptImages, .long d_traced])), (p_now, .inr (0, [.ref p_now_mounts, .ref p_now_lendings, .ref p_now_log, .ref p_now_undos])), (p_now_mounts, .inr (2, [.int d_now_mounts_most, .ref p_now_mounts_cells, .int d_now_mounts_many])), (p_now_mounts_cells, .inl (cI, 48, .inl d_now_mounts_cells))] t.heap ∧ va_D (va_A ([(p_this, .inr (5, [.ref p_text, .ref p_reader, .ref p_told, .ref p_draft, .ref p_now, .ref p_imageZero, .ref p_imageOne, .ref p_slots, .ref p_placesOf, .int d_keptImages, .long d_traced])), (p_now, .inr (0, [.ref p_now_mounts, .ref p_now_lendings, .ref p_now_log, .ref p_now_undos])), (p_now_mounts, .inr (2, [.int d_now_mounts_most, .ref p_now_mounts_cells, .int d_now_mounts_many])), (p_now_mounts_cells, .inl (cI, 48, .inl d_now_mounts_cells))] : va_W) sz) [(p_this, .inr (5, [.ref p_text, .ref p_reader, .ref p_told, .ref p_draft, .ref p_now, .ref p_imageZero, .ref p_imageOne, .ref p_slots, .ref p_placesOf, .int d_keptImages, .long d_traced])), (p_now, .inr (0, [.ref p_now_mounts, .ref p_now_lendings, .ref p_now_log, .ref p_now_undos])), (p_now_mounts, .inr (2, [.int d_now_mounts_most, .ref p_now_mounts_cells, .int d_now_mounts_many])), (p_now_mounts_cells, .inl (cI, 48, .inl d_now_mounts_cells))]) (va_A ([(p_this, .inr (5, [.ref p_text, .ref p_reader, .ref p_told, .ref p_draft, .ref p_now, .ref p_imageZero, .ref p_imageOne, .ref p_slots, .ref p_placesOf, .int d_keptImages, .long d_traced])), (p_now, .inr (0, [.ref p_now_mounts, .ref p_now_lendings, .ref p_now_log, .ref p_now_undos])), (p_now_mounts, .inr (2, [.int d_now_mounts_most, .ref p_now_mounts_cells, .int d_now_mounts_many])), (p_now_mounts_cells, .inl (cI, 48, .inl d_now_mounts_cells))] : va_W) sz)) 0 0 (va_A ([(p_this, .inr (5, [.ref p_text, .ref p_reader, .ref p_told, .ref p_draft, .ref p_now, .ref p_imageZero, .ref p_imageOne, .ref p_slots, .ref p_placesOf, .int d_keptImages, .long d_traced])), (p_now, .inr (0, [.ref p_now_mounts, .ref p_now_lendings, .ref p_now_log, .ref p_now_undos])), (p_now_mounts, .inr (2, [.int d_now_mounts_most, .ref p_now_mounts_cells, .int d_now_mounts_many])), (p_now_mounts_cells, .inl (cI, 48, .inl d_now_mounts_cells))] : va_W) sz) := by
  refine Met.ofW (cc := cX5_second) (maxL := 6) (ret := (some .int)) (by decide) rfl ?_
  intro p e s m args below meth c s₁ B hml hv
  obtain ⟨rfl, hsz, hP, hK, hD0, hN⟩ := hv
  have hx := B.exec
  have hb := B.bytes
  have hr := B.returns
  have hts := atoms_spec (ws := wsX5_second) B.pre
  have hown : s.vm.findClass RX5 = some m.cls := findClass_of_methodNamed B.named
  have hlocks := B.notSynchronized
  subst hsz
  have hD := hD0.self (sz := s.heap.size)
  generalize hAe : va_A ([(p_this, .inr (5, [.ref p_text, .ref p_reader, .ref p_told, .ref p_draft, .ref p_now, .ref p_imageZero, .ref p_imageOne, .ref p_slots, .ref p_placesOf, .int d_keptImages, .long d_traced])), (p_now, .inr (0, [.ref p_now_mounts, .ref p_now_lendings, .ref p_now_log, .ref p_now_undos])), (p_now_mounts, .inr (2, [.int d_now_mounts_most, .ref p_now_mounts_cells, .int d_now_mounts_many])), (p_now_mounts_cells, .inl (cI, 48, .inl d_now_mounts_cells))] : va_W) s.heap.size = A at hD ⊢
  have hA : ∀ q : Nat, s.heap.size ≤ q → A q := fun q h => by rw [← hAe]; exact Or.inr h
  have hS : va_S A s.heap s.heap [] := va_S.rf
  refine W_abs (fun Q hQ => ?_)
  have hl := lv_entry ([.ref p_this, .int x1, .int x2]) (n := 6) (Nat.le_of_ble_eq_true rfl)
  rw [lg_entry_eq]
  generalize (lg_sl ([.ref p_this, .int x1, .int x2]) ++ List.replicate (6 - (lg_sl ([.ref p_this, .int x1, .int x2])).length) Slot.unset).toArray = ls at hl ⊢
  have hl : lv_has ls 6 [(0, .ref p_this), (1, .int x1), (2, .int x2)] := hl
  rw [f_X5_second] at hrun
  refine W_start (ws := [(p_this, .inr (5, [.ref p_text, .ref p_reader, .ref p_told, .ref p_draft, .ref p_now, .ref p_imageZero, .ref p_imageOne, .ref p_slots, .ref p_placesOf, .int d_keptImages, .long d_traced])), (p_now, .inr (0, [.ref p_now_mounts, .ref p_now_lendings, .ref p_now_log, .ref p_now_undos])), (p_now_mounts, .inr (2, [.int d_now_mounts_most, .ref p_now_mounts_cells, .int d_now_mounts_many])), (p_now_mounts_cells, .inl (cI, 48, .inl d_now_mounts_cells))]) hP hS (fun H locs hP hS => ?_)
  have iwX0 : ∀ w ∈ wsX00, w ∈ wsX5_second := by decide +kernel
  have iwX2 : ∀ w ∈ wsX20, w ∈ wsX5_second := by decide +kernel
  have iwX5 : ∀ w ∈ wsX50, w ∈ wsX5_second := by decide +kernel
  refine lv_aload_n hx hb dX5_second_0 rfl (lv_at hl 0 rfl) ?_
  refine lv_iload_n hx hb dX5_second_1 rfl (lv_at hl 1 rfl) ?_
  have hPc : va_P (dC, dI) vwCl [(p_this, .inr (5, [.ref p_text, .ref p_reader, .ref p_told, .ref p_draft, .ref p_now, .ref p_imageZero, .ref p_imageOne, .ref p_slots, .ref p_placesOf, .int d_keptImages, .long d_traced])), (p_now, .inr (0, [.ref p_now_mounts, .ref p_now_lendings, .ref p_now_log, .ref p_now_undos])), (p_now_mounts, .inr (2, [.int d_now_mounts_most, .ref p_now_mounts_cells, .int d_now_mounts_many]))] H := hP.sub [0, 1, 2] rfl
  have hDc : va_D A [(p_this, .inr (5, [.ref p_text, .ref p_reader, .ref p_told, .ref p_draft, .ref p_now, .ref p_imageZero, .ref p_imageOne, .ref p_slots, .ref p_placesOf, .int d_keptImages, .long d_traced])), (p_now, .inr (0, [.ref p_now_mounts, .ref p_now_lendings, .ref p_now_log, .ref p_now_undos])), (p_now_mounts, .inr (2, [.int d_now_mounts_most, .ref p_now_mounts_cells, .int d_now_mounts_many]))] := hD.sub [0, 1, 2] (by decide) rfl
  have hFc := va_free (wc := [(p_this, .inr (5, [.ref p_text, .ref p_reader, .ref p_told, .ref p_draft, .ref p_now, .ref p_imageZero, .ref p_imageOne, .ref p_slots, .ref p_placesOf, .int d_keptImages, .long d_traced])), (p_now, .inr (0, [.ref p_now_mounts, .ref p_now_lendings, .ref p_now_log, .ref p_now_undos])), (p_now_mounts, .inr (2, [.int d_now_mounts_most, .ref p_now_mounts_cells, .int d_now_mounts_many]))]) hD hS hA [0, 1, 2] rfl
  refine va_calli (va_runV (As := [.int x1]) (rest := []) ⟨hx, hb, hml, hown, hts⟩ (c_X5_isDish l dC dI cI cZ H.size p_draft p_imageOne p_imageZero p_now p_now_lendings p_now_log p_now_mounts p_now_mounts_cells p_now_undos p_placesOf p_reader p_slots p_text p_this p_told d_keptImages d_traced d_now_mounts_most d_now_mounts_many x1 (f_X5_isDish d_now_mounts_many x1) rfl) (cwV 1 hts gX5_second_X5_isDish rfl rfl rfl (by decide +kernel) ⟨Nat.le_of_ble_eq_true rfl, Nat.le_of_ble_eq_true rfl⟩) ⟨fun a U g mk q => ⟨q.1, PC.mv q.2⟩, va_recv hK hP (ci := 5) (q0 := 0) rfl rfl, fun U hU hW => ⟨rfl, PC.of hU hW hPc hK hDc hN⟩⟩ rfl rfl hl.1 rfl (lv_room (Nat.le_of_ble_eq_true rfl)) dX5_second_2 ⟨Nat.zero_le _, Nat.zero_le _⟩) hS (fun q _ h => hFc q h) hFc (fun r_2 u t H1 locs ht hvm hw hB hz1 hk1 hS => ?_)
  obtain ⟨hP1, hD1⟩ := hB
  try dsimp only at hw
  rw [hw]
  rw [ht] at hP1
  have hP : va_P (dC, dI) vwCl [(p_this, .inr (5, [.ref p_text, .ref p_reader, .ref p_told, .ref p_draft, .ref p_now, .ref p_imageZero, .ref p_imageOne, .ref p_slots, .ref p_placesOf, .int d_keptImages, .long d_traced])), (p_now, .inr (0, [.ref p_now_mounts, .ref p_now_lendings, .ref p_now_log, .ref p_now_undos])), (p_now_mounts, .inr (2, [.int d_now_mounts_most, .ref p_now_mounts_cells, .int d_now_mounts_many])), (p_now_mounts_cells, .inl (cI, 48, .inl d_now_mounts_cells))] H1 := join_ro hP hD [0, 1, 2] rfl hk1 hP1
  clear hPc hDc hFc hk1 hz1 hP1 hD1 ht hvm
  generalize H1 = H at hP hS ⊢
  refine lv_if_eq (tgt := 15) hx hb dX5_second_5 (by decide) (fun c_5 => ?_) (fun c_5 => ?_)
  · rw [if_pos c_5] at hrun
    refine lv_iconst (v := (-1)) hx hb dX5_second_15 (by decide) ?_
    have hrun := Option.some.inj hrun
    subst hrun
    rw [hQ]
    exact W.iret (v := (-1)) hx hb hr (fun t ht hW => ⟨⟨(-1), (), rfl, rfl, by rw [ht]; exact hP, hD⟩, hS.F ht⟩) hS.2.2 dX5_second_16
  · rw [if_neg c_5] at hrun
    refine lv_iload_n hx hb dX5_second_8 rfl (lv_at hl 2 rfl) ?_
    have hPc : va_P (dC, dI) vwCl [] H := hP.sub [] rfl
    have hDc : va_D A [] := hD.sub [] (by decide) rfl
    have hFc := va_free (wc := []) hD hS hA [] rfl
    refine va_calli (va_runS (As := [.int x2]) (rest := []) ⟨hx, hb, hml, hown, hts⟩ (c_X5_isHour l dC dI cI cZ H.size x2 (f_X5_isHour x2) rfl) (va_cwS 1 hts gX5_second_X5_isHour rfl rfl rfl (by decide +kernel) ⟨Nat.le_of_ble_eq_true rfl, Nat.le_of_ble_eq_true rfl⟩) ⟨fun a U g mk q => ⟨q.1, PC.mv q.2⟩, fun U hU hW => ⟨rfl, PC.of hU hW hPc hK hDc hN⟩⟩ rfl rfl hl.1 rfl (lv_room (Nat.le_of_ble_eq_true rfl)) dX5_second_9 ⟨Nat.zero_le _, Nat.zero_le _⟩) hS (fun q _ h => hFc q h) hFc (fun r_9 u t H1 locs ht hvm hw hB hz1 hk1 hS => ?_)
    obtain ⟨hP1, hD1⟩ := hB
    try dsimp only at hw
    rw [hw]
    rw [ht] at hP1
    have hP : va_P (dC, dI) vwCl [(p_this, .inr (5, [.ref p_text, .ref p_reader, .ref p_told, .ref p_draft, .ref p_now, .ref p_imageZero, .ref p_imageOne, .ref p_slots, .ref p_placesOf, .int d_keptImages, .long d_traced])), (p_now, .inr (0, [.ref p_now_mounts, .ref p_now_lendings, .ref p_now_log, .ref p_now_undos])), (p_now_mounts, .inr (2, [.int d_now_mounts_most, .ref p_now_mounts_cells, .int d_now_mounts_many])), (p_now_mounts_cells, .inl (cI, 48, .inl d_now_mounts_cells))] H1 := join_ro hP hD [] rfl hk1 hP1
    clear hPc hDc hFc hk1 hz1 hP1 hD1 ht hvm
    generalize H1 = H at hP hS ⊢
    refine lv_if_ne (tgt := 17) hx hb dX5_second_12 (by decide) (fun c_12 => ?_) (fun c_12 => ?_)
    · rw [if_neg c_12] at hrun
      refine lv_aload_n hx hb dX5_second_17 rfl (lv_at hl 0 rfl) ?_
      refine va_get (D := (dC, dI)) (ci := 5) (v := .ref p_now) (C := RX5) (T := TX5) (N := 11) hx hb hts iwX5 hown hK hP 0 rfl rfl 4 (by decide) (hts (.fieldLink RX5 36 "SkyListeners" "now" "LSkyListeners$Now;") (by decide +kernel)) (fun _ h9 => h9) rfl dX5_second_18 ?_
      refine lv_iload_n hx hb dX5_second_21 rfl (lv_at hl 1 rfl) ?_
      refine lv_iload_n hx hb dX5_second_22 rfl (lv_at hl 2 rfl) ?_
      have hPc : va_P (dC, dI) vwCl [(p_now, .inr (0, [.ref p_now_mounts, .ref p_now_lendings, .ref p_now_log, .ref p_now_undos])), (p_now_mounts, .inr (2, [.int d_now_mounts_most, .ref p_now_mounts_cells, .int d_now_mounts_many])), (p_now_mounts_cells, .inl (cI, 48, .inl d_now_mounts_cells))] H := hP.sub [1, 2, 3] rfl
      have hDc : va_D A [(p_now, .inr (0, [.ref p_now_mounts, .ref p_now_lendings, .ref p_now_log, .ref p_now_undos])), (p_now_mounts, .inr (2, [.int d_now_mounts_most, .ref p_now_mounts_cells, .int d_now_mounts_many])), (p_now_mounts_cells, .inl (cI, 48, .inl d_now_mounts_cells))] := hD.sub [1, 2, 3] (by decide) rfl
      have hFc := va_free (wc := [(p_now, .inr (0, [.ref p_now_mounts, .ref p_now_lendings, .ref p_now_log, .ref p_now_undos])), (p_now_mounts, .inr (2, [.int d_now_mounts_most, .ref p_now_mounts_cells, .int d_now_mounts_many])), (p_now_mounts_cells, .inl (cI, 48, .inl d_now_mounts_cells))]) hD hS hA [1, 2, 3] rfl
      refine va_calli (va_runV (As := [.int x1, .int x2]) (rest := []) ⟨hx, hb, hml, hown, hts⟩ (c_X0_placeSeen l dC dI cI cZ H.size p_now_lendings p_now_log p_now_mounts p_now_mounts_cells p_now p_now_undos d_now_mounts_most d_now_mounts_many d_now_mounts_cells x1 x2 (f_X0_placeSeen d_now_mounts_many d_now_mounts_cells x1 x2) rfl) (cwV 2 hts gX5_second_X0_placeSeen rfl rfl rfl (by decide +kernel) ⟨Nat.le_of_ble_eq_true rfl, Nat.le_of_ble_eq_true rfl⟩) ⟨fun a U g mk q => ⟨q.1, PC.mv q.2⟩, va_recv hK hP (ci := 0) (q0 := 1) rfl rfl, fun U hU hW => ⟨rfl, PC.of hU hW hPc hK hDc hN⟩⟩ rfl rfl hl.1 rfl (lv_room (Nat.le_of_ble_eq_true rfl)) dX5_second_23 ⟨Nat.zero_le _, Nat.zero_le _⟩) hS (fun q _ h => hFc q h) hFc (fun r_23 u t H1 locs ht hvm hw hB hz1 hk1 hS => ?_)
      obtain ⟨hP1, hD1⟩ := hB
      try dsimp only at hw
      rw [hw]
      rw [ht] at hP1
      have hP : va_P (dC, dI) vwCl [(p_this, .inr (5, [.ref p_text, .ref p_reader, .ref p_told, .ref p_draft, .ref p_now, .ref p_imageZero, .ref p_imageOne, .ref p_slots, .ref p_placesOf, .int d_keptImages, .long d_traced])), (p_now, .inr (0, [.ref p_now_mounts, .ref p_now_lendings, .ref p_now_log, .ref p_now_undos])), (p_now_mounts, .inr (2, [.int d_now_mounts_most, .ref p_now_mounts_cells, .int d_now_mounts_many])), (p_now_mounts_cells, .inl (cI, 48, .inl d_now_mounts_cells))] H1 := join_ro hP hD [1, 2, 3] rfl hk1 hP1
      clear hPc hDc hFc hk1 hz1 hP1 hD1 ht hvm
      generalize H1 = H at hP hS ⊢
      refine lv_istore_n (lv' := [(3, .int (f_X0_placeSeen d_now_mounts_many d_now_mounts_cells x1 x2)), (0, .ref p_this), (1, .int x1), (2, .int x2)]) hx hb dX5_second_26 rfl hl (by decide) rfl (fun ls hl => ?_)
      refine lv_iconst (v := 0) hx hb dX5_second_27 (by decide) ?_
      refine lv_istore (lv' := [(4, .int 0), (3, .int (f_X0_placeSeen d_now_mounts_many d_now_mounts_cells x1 x2)), (0, .ref p_this), (1, .int x1), (2, .int x2)]) hx hb dX5_second_28 hl (by decide) rfl (fun ls hl => ?_)
      refine lv_iconst (v := 0) hx hb dX5_second_30 (by decide) ?_
      refine lv_istore (lv' := [(5, .int 0), (4, .int 0), (3, .int (f_X0_placeSeen d_now_mounts_many d_now_mounts_cells x1 x2)), (0, .ref p_this), (1, .int x1), (2, .int x2)]) hx hb dX5_second_31 hl (by decide) rfl (fun ls hl => ?_)
      have L33 : ∀ (n9_33 : Nat) (x4_33 : Int32) (x5_33 : Int32) (H : Heap) (locs : List Loc), va_P (dC, dI) vwCl [(p_this, .inr (5, [.ref p_text, .ref p_reader, .ref p_told, .ref p_draft, .ref p_now, .ref p_imageZero, .ref p_imageOne, .ref p_slots, .ref p_placesOf, .int d_keptImages, .long d_traced])), (p_now, .inr (0, [.ref p_now_mounts, .ref p_now_lendings, .ref p_now_log, .ref p_now_undos])), (p_now_mounts, .inr (2, [.int d_now_mounts_most, .ref p_now_mounts_cells, .int d_now_mounts_many])), (p_now_mounts_cells, .inl (cI, 48, .inl d_now_mounts_cells))] H → va_D A [(p_this, .inr (5, [.ref p_text, .ref p_reader, .ref p_told, .ref p_draft, .ref p_now, .ref p_imageZero, .ref p_imageOne, .ref p_slots, .ref p_placesOf, .int d_keptImages, .long d_traced])), (p_now, .inr (0, [.ref p_now_mounts, .ref p_now_lendings, .ref p_now_log, .ref p_now_undos])), (p_now_mounts, .inr (2, [.int d_now_mounts_most, .ref p_now_mounts_cells, .int d_now_mounts_many])), (p_now_mounts_cells, .inl (cI, 48, .inl d_now_mounts_cells))] → va_S A s.heap H locs → ∀ ls : Array Slot, lv_has ls 6 [(0, .ref p_this), (1, .int x1), (2, .int x2), (3, .int (f_X0_placeSeen d_now_mounts_many d_now_mounts_cells x1 x2)), (4, .int x4_33), (5, .int x5_33)] → f_X5_second_L33 x1 x2 (f_X0_placeSeen d_now_mounts_many d_now_mounts_cells x1 x2) d_now_mounts_many d_now_mounts_cells n9_33 x4_33 x5_33 = some out → W p l e ({ frames := 4, cells := 0, slots := 0, locals := 91 } : Room) s m ([.ref p_this, .int x1, .int x2] : List Value).toArray below meth c H locs 0 0 Q (F0 m 33 ls []) := by
        intro n9_33
        induction n9_33 with
        | zero =>
          intro x4_33 x5_33 H locs hP hD hS ls hl hrun
          rw [f_X5_second_L33] at hrun
          cases hrun
        | succ n9_33 ih33 =>
          intro x4_33 x5_33 H locs hP hD hS ls hl hrun
          rw [f_X5_second_L33] at hrun
          refine lv_iload hx hb dX5_second_33 (lv_at hl 5 rfl) ?_
          refine lv_aload_n hx hb dX5_second_35 rfl (lv_at hl 0 rfl) ?_
          refine va_get (D := (dC, dI)) (ci := 5) (v := .ref p_now) (C := RX5) (T := TX5) (N := 11) hx hb hts iwX5 hown hK hP 0 rfl rfl 4 (by decide) (hts (.fieldLink RX5 36 "SkyListeners" "now" "LSkyListeners$Now;") (by decide +kernel)) (fun _ h9 => h9) rfl dX5_second_36 ?_
          refine va_get (D := (dC, dI)) (ci := 0) (v := .ref p_now_mounts) (C := RX0) (T := TX0) (N := 4) hx hb hts iwX0 hown hK hP 1 rfl rfl 0 (by decide) (hts (.fieldLink RX5 115 "SkyListeners$Now" "mounts" "LSkyListeners$Rows;") (by decide +kernel)) (fun _ h9 => h9) rfl dX5_second_39 ?_
          refine va_get (D := (dC, dI)) (ci := 2) (v := .int d_now_mounts_many) (C := RX2) (T := TX2) (N := 3) hx hb hts iwX2 hown hK hP 2 rfl rfl 2 (by decide) (hts (.fieldLink RX5 136 "SkyListeners$Rows" "many" "I") (by decide +kernel)) (fun _ h9 => h9) rfl dX5_second_42 ?_
          refine lv_icmp_ge (tgt := 82) hx hb dX5_second_45 (by decide) (fun c_45 => ?_) (fun c_45 => ?_)
          · rw [if_pos c_45] at hrun
            refine lv_iload hx hb dX5_second_82 (lv_at hl 4 rfl) ?_
            have hrun := Option.some.inj hrun
            subst hrun
            rw [hQ]
            exact W.iret (v := x4_33) hx hb hr (fun t ht hW => ⟨⟨x4_33, (), rfl, rfl, by rw [ht]; exact hP, hD⟩, hS.F ht⟩) hS.2.2 dX5_second_84
          · rw [if_neg c_45] at hrun
            refine lv_iload hx hb dX5_second_48 (lv_at hl 5 rfl) ?_
            refine lv_iload_n hx hb dX5_second_50 rfl (lv_at hl 1 rfl) ?_
            have J76 : ∀ (x4_76 : Int32) (H : Heap) (locs : List Loc), va_P (dC, dI) vwCl [(p_this, .inr (5, [.ref p_text, .ref p_reader, .ref p_told, .ref p_draft, .ref p_now, .ref p_imageZero, .ref p_imageOne, .ref p_slots, .ref p_placesOf, .int d_keptImages, .long d_traced])), (p_now, .inr (0, [.ref p_now_mounts, .ref p_now_lendings, .ref p_now_log, .ref p_now_undos])), (p_now_mounts, .inr (2, [.int d_now_mounts_most, .ref p_now_mounts_cells, .int d_now_mounts_many])), (p_now_mounts_cells, .inl (cI, 48, .inl d_now_mounts_cells))] H → va_D A [(p_this, .inr (5, [.ref p_text, .ref p_reader, .ref p_told, .ref p_draft, .ref p_now, .ref p_imageZero, .ref p_imageOne, .ref p_slots, .ref p_placesOf, .int d_keptImages, .long d_traced])), (p_now, .inr (0, [.ref p_now_mounts, .ref p_now_lendings, .ref p_now_log, .ref p_now_undos])), (p_now_mounts, .inr (2, [.int d_now_mounts_most, .ref p_now_mounts_cells, .int d_now_mounts_many])), (p_now_mounts_cells, .inl (cI, 48, .inl d_now_mounts_cells))] → va_S A s.heap H locs → ∀ ls : Array Slot, lv_has ls 6 [(0, .ref p_this), (1, .int x1), (2, .int x2), (3, .int (f_X0_placeSeen d_now_mounts_many d_now_mounts_cells x1 x2)), (4, .int x4_76), (5, .int x5_33)] → f_X5_second_J76 (f_X5_second_L33 x1 x2 (f_X0_placeSeen d_now_mounts_many d_now_mounts_cells x1 x2) d_now_mounts_many d_now_mounts_cells n9_33) x1 x2 (f_X0_placeSeen d_now_mounts_many d_now_mounts_cells x1 x2) x5_33 d_now_mounts_many d_now_mounts_cells x4_76 = some out → W p l e ({ frames := 4, cells := 0, slots := 0, locals := 91 } : Room) s m ([.ref p_this, .int x1, .int x2] : List Value).toArray below meth c H locs 0 0 Q (F0 m 76 ls []) := by
              intro x4_76 H locs hP hD hS ls hl hrun
              rw [f_X5_second_J76] at hrun
              refine lv_iinc (v := x5_33 + 1) (lv' := [(5, .int (x5_33 + 1)), (0, .ref p_this), (1, .int x1), (2, .int x2), (3, .int (f_X0_placeSeen d_now_mounts_many d_now_mounts_cells x1 x2)), (4, .int x4_76)]) hx hb dX5_second_76 hl (k := 5) rfl rfl (by decide) rfl (fun ls hl => ?_)
              refine lv_goto (tgt := 33) hx hb dX5_second_79 (by decide) ?_
              exact ih33 x4_76 (x5_33 + 1) H locs hP hD hS ls (lv_sub hl [1, 2, 3, 4, 5, 0] rfl) hrun
            refine lv_icmp_eq (tgt := 76) hx hb dX5_second_51 (by decide) (fun c_51 => ?_) (fun c_51 => ?_)
            · rw [if_pos c_51] at hrun
              exact J76 x4_33 H locs hP hD hS ls hl hrun
            · rw [if_neg c_51] at hrun
              refine lv_aload_n hx hb dX5_second_54 rfl (lv_at hl 0 rfl) ?_
              refine va_get (D := (dC, dI)) (ci := 5) (v := .ref p_now) (C := RX5) (T := TX5) (N := 11) hx hb hts iwX5 hown hK hP 0 rfl rfl 4 (by decide) (hts (.fieldLink RX5 36 "SkyListeners" "now" "LSkyListeners$Now;") (by decide +kernel)) (fun _ h9 => h9) rfl dX5_second_55 ?_
              refine lv_iload hx hb dX5_second_58 (lv_at hl 5 rfl) ?_
              refine lv_iload_n hx hb dX5_second_60 rfl (lv_at hl 2 rfl) ?_
              refine lv_bipush (v := 23) hx hb dX5_second_61 (by decide) ?_
              obtain ⟨q63, hq63, hrun⟩ := bind_out hrun
              have hPc : va_P (dC, dI) vwCl [(p_now, .inr (0, [.ref p_now_mounts, .ref p_now_lendings, .ref p_now_log, .ref p_now_undos])), (p_now_mounts, .inr (2, [.int d_now_mounts_most, .ref p_now_mounts_cells, .int d_now_mounts_many])), (p_now_mounts_cells, .inl (cI, 48, .inl d_now_mounts_cells))] H := hP.sub [1, 2, 3] rfl
              have hDc : va_D A [(p_now, .inr (0, [.ref p_now_mounts, .ref p_now_lendings, .ref p_now_log, .ref p_now_undos])), (p_now_mounts, .inr (2, [.int d_now_mounts_most, .ref p_now_mounts_cells, .int d_now_mounts_many])), (p_now_mounts_cells, .inl (cI, 48, .inl d_now_mounts_cells))] := hD.sub [1, 2, 3] (by decide) rfl
              have hFc := va_free (wc := [(p_now, .inr (0, [.ref p_now_mounts, .ref p_now_lendings, .ref p_now_log, .ref p_now_undos])), (p_now_mounts, .inr (2, [.int d_now_mounts_most, .ref p_now_mounts_cells, .int d_now_mounts_many])), (p_now_mounts_cells, .inl (cI, 48, .inl d_now_mounts_cells))]) hD hS hA [1, 2, 3] rfl
              refine va_calli (va_runV (As := [.int x5_33, .int x2, .int 23]) (rest := []) ⟨hx, hb, hml, hown, hts⟩ (c_X0_placesSeen l dC dI cI cZ H.size p_now_lendings p_now_log p_now_mounts p_now_mounts_cells p_now p_now_undos d_now_mounts_most d_now_mounts_many d_now_mounts_cells x5_33 x2 23 q63 hq63) (cwV 3 hts gX5_second_X0_placesSeen rfl rfl rfl (by decide +kernel) ⟨Nat.le_of_ble_eq_true rfl, Nat.le_of_ble_eq_true rfl⟩) ⟨fun a U g mk q => ⟨q.1, PC.mv q.2⟩, va_recv hK hP (ci := 0) (q0 := 1) rfl rfl, fun U hU hW => ⟨rfl, PC.of hU hW hPc hK hDc hN⟩⟩ rfl rfl hl.1 rfl (lv_room (Nat.le_of_ble_eq_true rfl)) dX5_second_63 ⟨Nat.zero_le _, Nat.zero_le _⟩) hS (fun q _ h => hFc q h) hFc (fun r_63 u t H1 locs ht hvm hw hB hz1 hk1 hS => ?_)
              obtain ⟨hP1, hD1⟩ := hB
              try dsimp only at hw
              rw [hw]
              rw [ht] at hP1
              have hP : va_P (dC, dI) vwCl [(p_this, .inr (5, [.ref p_text, .ref p_reader, .ref p_told, .ref p_draft, .ref p_now, .ref p_imageZero, .ref p_imageOne, .ref p_slots, .ref p_placesOf, .int d_keptImages, .long d_traced])), (p_now, .inr (0, [.ref p_now_mounts, .ref p_now_lendings, .ref p_now_log, .ref p_now_undos])), (p_now_mounts, .inr (2, [.int d_now_mounts_most, .ref p_now_mounts_cells, .int d_now_mounts_many])), (p_now_mounts_cells, .inl (cI, 48, .inl d_now_mounts_cells))] H1 := join_ro hP hD [1, 2, 3] rfl hk1 hP1
              clear hPc hDc hFc hk1 hz1 hP1 hD1 ht hvm
              generalize H1 = H at hP hS ⊢
              refine lv_iload_n hx hb dX5_second_66 rfl (lv_at hl 3 rfl) ?_
              have hPc : va_P (dC, dI) vwCl [] H := hP.sub [] rfl
              have hDc : va_D A [] := hD.sub [] (by decide) rfl
              have hFc := va_free (wc := []) hD hS hA [] rfl
              refine va_calli (va_runS (As := [.int q63, .int (f_X0_placeSeen d_now_mounts_many d_now_mounts_cells x1 x2)]) (rest := []) ⟨hx, hb, hml, hown, hts⟩ (c_X5_hasBit l dC dI cI cZ H.size q63 (f_X0_placeSeen d_now_mounts_many d_now_mounts_cells x1 x2) (f_X5_hasBit q63 (f_X0_placeSeen d_now_mounts_many d_now_mounts_cells x1 x2)) rfl) (va_cwS 2 hts gX5_second_X5_hasBit rfl rfl rfl (by decide +kernel) ⟨Nat.le_of_ble_eq_true rfl, Nat.le_of_ble_eq_true rfl⟩) ⟨fun a U g mk q => ⟨q.1, PC.mv q.2⟩, fun U hU hW => ⟨rfl, PC.of hU hW hPc hK hDc hN⟩⟩ rfl rfl hl.1 rfl (lv_room (Nat.le_of_ble_eq_true rfl)) dX5_second_67 ⟨Nat.zero_le _, Nat.zero_le _⟩) hS (fun q _ h => hFc q h) hFc (fun r_67 u t H1 locs ht hvm hw hB hz1 hk1 hS => ?_)
              obtain ⟨hP1, hD1⟩ := hB
              try dsimp only at hw
              rw [hw]
              rw [ht] at hP1
              have hP : va_P (dC, dI) vwCl [(p_this, .inr (5, [.ref p_text, .ref p_reader, .ref p_told, .ref p_draft, .ref p_now, .ref p_imageZero, .ref p_imageOne, .ref p_slots, .ref p_placesOf, .int d_keptImages, .long d_traced])), (p_now, .inr (0, [.ref p_now_mounts, .ref p_now_lendings, .ref p_now_log, .ref p_now_undos])), (p_now_mounts, .inr (2, [.int d_now_mounts_most, .ref p_now_mounts_cells, .int d_now_mounts_many])), (p_now_mounts_cells, .inl (cI, 48, .inl d_now_mounts_cells))] H1 := join_ro hP hD [] rfl hk1 hP1
              clear hPc hDc hFc hk1 hz1 hP1 hD1 ht hvm
              generalize H1 = H at hP hS ⊢
              refine lv_if_eq (tgt := 76) hx hb dX5_second_70 (by decide) (fun c_70 => ?_) (fun c_70 => ?_)
              · rw [if_pos c_70] at hrun
                exact J76 x4_33 H locs hP hD hS ls hl hrun
              · rw [if_neg c_70] at hrun
                refine lv_iinc (v := x4_33 + 1) (lv' := [(4, .int (x4_33 + 1)), (0, .ref p_this), (1, .int x1), (2, .int x2), (3, .int (f_X0_placeSeen d_now_mounts_many d_now_mounts_cells x1 x2)), (5, .int x5_33)]) hx hb dX5_second_73 hl (k := 4) rfl rfl (by decide) rfl (fun ls hl => ?_)
                exact J76 (x4_33 + 1) H locs hP hD hS ls (lv_sub hl [1, 2, 3, 4, 0, 5] rfl) hrun
      exact L33 FU 0 0 H locs hP hD hS ls (lv_sub hl [3, 4, 5, 2, 1, 0] rfl) hrun
    · rw [if_pos c_12] at hrun
      refine lv_iconst (v := (-1)) hx hb dX5_second_15 (by decide) ?_
      have hrun := Option.some.inj hrun
      subst hrun
      rw [hQ]
      exact W.iret (v := (-1)) hx hb hr (fun t ht hW => ⟨⟨(-1), (), rfl, rfl, by rw [ht]; exact hP, hD⟩, hS.F ht⟩) hS.2.2 dX5_second_16
-- SkyListeners.markAsNote
def f_X5_markAsNote (d_traced : Int64) (x1 : Int32) : Int32 × Int64 := ((x1, d_traced + 1))
set_option maxHeartbeats 4000000 in
set_option maxRecDepth 100000 in
theorem c_X5_markAsNote (l : Launch) (dC : Nat → ClassId) (dI : Nat → Nat → Nat) (cI cZ : ClassId) (sz : Nat) (p_draft p_imageOne p_imageZero p_now p_placesOf p_reader p_slots p_text p_this p_told : Nat) (d_keptImages : Int32) (d_traced : Int64) (x1 : Int32) (out : Int32 × Int64) (hrun : f_X5_markAsNote d_traced x1 = out) : Met l yX5_markAsNote wsX5_markAsNote ({ frames := 0, cells := 0, slots := 0, locals := 0 } : Room) (va_Pc [.ref p_this, .int x1] (PC dC dI cI cZ sz ([(p_this, .inr (5, [.ref p_text, .ref p_reader, .ref p_told, .ref p_draft, .ref p_now, .ref p_imageZero, .ref p_imageOne, .ref p_slots, .ref p_placesOf, .int d_keptImages, .long d_traced]))] : va_W))) (va_Qi (fun r (_ : Unit) => r = out.1) (fun _ t => va_P (dC, dI) vwCl [(p_this, .inr (5, [.ref p_text, .ref p_reader, .ref p_told, .ref p_draft, .ref p_now, .ref p_imageZero, .ref p_imageOne, .ref p_slots, .ref p_placesOf, .int d_keptImages, .long out.2]))] t.heap ∧ va_D (va_A ([(p_this, .inr (5, [.ref p_text, .ref p_reader, .ref p_told, .ref p_draft, .ref p_now, .ref p_imageZero, .ref p_imageOne, .ref p_slots, .ref p_placesOf, .int d_keptImages, .long d_traced]))] : va_W) sz) [(p_this, .inr (5, [.ref p_text, .ref p_reader, .ref p_told, .ref p_draft, .ref p_now, .ref p_imageZero, .ref p_imageOne, .ref p_slots, .ref p_placesOf, .int d_keptImages, .long out.2]))]) (va_A ([(p_this, .inr (5, [.ref p_text, .ref p_reader, .ref p_told, .ref p_draft, .ref p_now, .ref p_imageZero, .ref p_imageOne, .ref p_slots, .ref p_placesOf, .int d_keptImages, .long d_traced]))] : va_W) sz)) 0 0 (va_A ([(p_this, .inr (5, [.ref p_text, .ref p_reader, .ref p_told, .ref p_draft, .ref p_now, .ref p_imageZero, .ref p_imageOne, .ref p_slots, .ref p_placesOf, .int d_keptImages, .long d_traced]))] : va_W) sz) := by
  refine Met.ofW (cc := cX5_markAsNote) (maxL := 2) (ret := (some .int)) (by decide) rfl ?_
  intro p e s m args below meth c s₁ B hml hv
  obtain ⟨rfl, hsz, hP, hK, hD0, hN⟩ := hv
  have hx := B.exec
  have hb := B.bytes
  have hr := B.returns
  have hts := atoms_spec (ws := wsX5_markAsNote) B.pre
  have hown : s.vm.findClass RX5 = some m.cls := findClass_of_methodNamed B.named
  have hlocks := B.notSynchronized
  subst hsz
  have hD := hD0.self (sz := s.heap.size)
  generalize hAe : va_A ([(p_this, .inr (5, [.ref p_text, .ref p_reader, .ref p_told, .ref p_draft, .ref p_now, .ref p_imageZero, .ref p_imageOne, .ref p_slots, .ref p_placesOf, .int d_keptImages, .long d_traced]))] : va_W) s.heap.size = A at hD ⊢
  have hA : ∀ q : Nat, s.heap.size ≤ q → A q := fun q h => by rw [← hAe]; exact Or.inr h
  have hS : va_S A s.heap s.heap [] := va_S.rf
  refine W_abs (fun Q hQ => ?_)
  have hl := lv_entry ([.ref p_this, .int x1]) (n := 2) (Nat.le_of_ble_eq_true rfl)
  rw [lg_entry_eq]
  generalize (lg_sl ([.ref p_this, .int x1]) ++ List.replicate (2 - (lg_sl ([.ref p_this, .int x1])).length) Slot.unset).toArray = ls at hl ⊢
  have hl : lv_has ls 2 [(0, .ref p_this), (1, .int x1)] := hl
  rw [f_X5_markAsNote] at hrun
  refine W_start (ws := [(p_this, .inr (5, [.ref p_text, .ref p_reader, .ref p_told, .ref p_draft, .ref p_now, .ref p_imageZero, .ref p_imageOne, .ref p_slots, .ref p_placesOf, .int d_keptImages, .long d_traced]))]) hP hS (fun H locs hP hS => ?_)
  have iwX5 : ∀ w ∈ wsX50, w ∈ wsX5_markAsNote := by decide +kernel
  refine lv_aload_n hx hb dX5_markAsNote_0 rfl (lv_at hl 0 rfl) ?_
  refine lv_dup hx hb dX5_markAsNote_1 rfl ?_
  refine va_get (D := (dC, dI)) (ci := 5) (v := .long d_traced) (C := RX5) (T := TX5) (N := 11) hx hb hts iwX5 hown hK hP 0 rfl rfl 10 (by decide) (hts (.fieldLink RX5 57 "SkyListeners" "traced" "J") (by decide +kernel)) (fun _ h9 => h9) rfl dX5_markAsNote_2 ?_
  refine lv_lconst (v := 1) hx hb dX5_markAsNote_5 (by decide) ?_
  refine lv_ladd hx hb dX5_markAsNote_6 ?_
  refine va_put (D := (dC, dI)) (ci := 5) (v := .long (d_traced + 1)) (ty := .long) (C := RX5) (T := TX5) (N := 11) hx hb hts iwX5 tyX5 tyX5_ok nmX5 hown hK hP hD hS 0 rfl rfl 10 (by decide) (hts (.fieldLink RX5 57 "SkyListeners" "traced" "J") (by decide +kernel)) (fun _ h9 => h9) rfl (by decide +kernel) rfl rfl (Nat.le_of_ble_eq_true rfl) dX5_markAsNote_7 (fun H locs hP hD hS => ?_)
  have hP : va_P (dC, dI) vwCl [(p_this, .inr (5, [.ref p_text, .ref p_reader, .ref p_told, .ref p_draft, .ref p_now, .ref p_imageZero, .ref p_imageOne, .ref p_slots, .ref p_placesOf, .int d_keptImages, .long (d_traced + 1)]))] H := hP
  have hD : va_D A [(p_this, .inr (5, [.ref p_text, .ref p_reader, .ref p_told, .ref p_draft, .ref p_now, .ref p_imageZero, .ref p_imageOne, .ref p_slots, .ref p_placesOf, .int d_keptImages, .long (d_traced + 1)]))] := hD
  refine lv_iload_n hx hb dX5_markAsNote_10 rfl (lv_at hl 1 rfl) ?_
  have hrun := hrun
  subst hrun
  rw [hQ]
  exact W.iret (v := x1) hx hb hr (fun t ht hW => ⟨⟨x1, (), rfl, rfl, by rw [ht]; exact hP, hD⟩, hS.F ht⟩) hS.2.2 dX5_markAsNote_11
-- SkyListeners.markAsEcho
def f_X5_markAsEcho (d_traced : Int64) (d_now_mounts_many : Int32) (x1 : Int32) : Int32 × Int64 := ((((f_X5_markAsNote (d_traced + 100000) x1).1) + d_now_mounts_many, (f_X5_markAsNote (d_traced + 100000) x1).2))
set_option maxHeartbeats 4000000 in
set_option maxRecDepth 100000 in
theorem c_X5_markAsEcho (l : Launch) (dC : Nat → ClassId) (dI : Nat → Nat → Nat) (cI cZ : ClassId) (sz : Nat) (p_draft p_imageOne p_imageZero p_now p_now_lendings p_now_log p_now_mounts p_now_mounts_cells p_now_undos p_placesOf p_reader p_slots p_text p_this p_told : Nat) (d_keptImages : Int32) (d_traced : Int64) (d_now_mounts_most : Int32) (d_now_mounts_many : Int32) (x1 : Int32) (out : Int32 × Int64) (hrun : f_X5_markAsEcho d_traced d_now_mounts_many x1 = out) : Met l yX5_markAsEcho wsX5_markAsEcho ({ frames := 1, cells := 0, slots := 0, locals := 21 } : Room) (va_Pc [.ref p_this, .int x1] (PC dC dI cI cZ sz ([(p_this, .inr (5, [.ref p_text, .ref p_reader, .ref p_told, .ref p_draft, .ref p_now, .ref p_imageZero, .ref p_imageOne, .ref p_slots, .ref p_placesOf, .int d_keptImages, .long d_traced])), (p_now, .inr (0, [.ref p_now_mounts, .ref p_now_lendings, .ref p_now_log, .ref p_now_undos])), (p_now_mounts, .inr (2, [.int d_now_mounts_most, .ref p_now_mounts_cells, .int d_now_mounts_many]))] : va_W))) (va_Qi (fun r (_ : Unit) => r = out.1) (fun _ t => va_P (dC, dI) vwCl [(p_this, .inr (5, [.ref p_text, .ref p_reader, .ref p_told, .ref p_draft, .ref p_now, .ref p_imageZero, .ref p_imageOne, .ref p_slots, .ref p_placesOf, .int d_keptImages, .long out.2])), (p_now, .inr (0, [.ref p_now_mounts, .ref p_now_lendings, .ref p_now_log, .ref p_now_undos])), (p_now_mounts, .inr (2, [.int d_now_mounts_most, .ref p_now_mounts_cells, .int d_now_mounts_many]))] t.heap ∧ va_D (va_A ([(p_this, .inr (5, [.ref p_text, .ref p_reader, .ref p_told, .ref p_draft, .ref p_now, .ref p_imageZero, .ref p_imageOne, .ref p_slots, .ref p_placesOf, .int d_keptImages, .long d_traced])), (p_now, .inr (0, [.ref p_now_mounts, .ref p_now_lendings, .ref p_now_log, .ref p_now_undos])), (p_now_mounts, .inr (2, [.int d_now_mounts_most, .ref p_now_mounts_cells, .int d_now_mounts_many]))] : va_W) sz) [(p_this, .inr (5, [.ref p_text, .ref p_reader, .ref p_told, .ref p_draft, .ref p_now, .ref p_imageZero, .ref p_imageOne, .ref p_slots, .ref p_placesOf, .int d_keptImages, .long out.2])), (p_now, .inr (0, [.ref p_now_mounts, .ref p_now_lendings, .ref p_now_log, .ref p_now_undos])), (p_now_mounts, .inr (2, [.int d_now_mounts_most, .ref p_now_mounts_cells, .int d_now_mounts_many]))]) (va_A ([(p_this, .inr (5, [.ref p_text, .ref p_reader, .ref p_told, .ref p_draft, .ref p_now, .ref p_imageZero, .ref p_imageOne, .ref p_slots, .ref p_placesOf, .int d_keptImages, .long d_traced])), (p_now, .inr (0, [.ref p_now_mounts, .ref p_now_lendings, .ref p_now_log, .ref p_now_undos])), (p_now_mounts, .inr (2, [.int d_now_mounts_most, .ref p_now_mounts_cells, .int d_now_mounts_many]))] : va_W) sz)) 0 0 (va_A ([(p_this, .inr (5, [.ref p_text, .ref p_reader, .ref p_told, .ref p_draft, .ref p_now, .ref p_imageZero, .ref p_imageOne, .ref p_slots, .ref p_placesOf, .int d_keptImages, .long d_traced])), (p_now, .inr (0, [.ref p_now_mounts, .ref p_now_lendings, .ref p_now_log, .ref p_now_undos])), (p_now_mounts, .inr (2, [.int d_now_mounts_most, .ref p_now_mounts_cells, .int d_now_mounts_many]))] : va_W) sz) := by
  refine Met.ofW (cc := cX5_markAsEcho) (maxL := 2) (ret := (some .int)) (by decide) rfl ?_
  intro p e s m args below meth c s₁ B hml hv
  obtain ⟨rfl, hsz, hP, hK, hD0, hN⟩ := hv
  have hx := B.exec
  have hb := B.bytes
  have hr := B.returns
  have hts := atoms_spec (ws := wsX5_markAsEcho) B.pre
  have hown : s.vm.findClass RX5 = some m.cls := findClass_of_methodNamed B.named
  have hlocks := B.notSynchronized
  subst hsz
  have hD := hD0.self (sz := s.heap.size)
  generalize hAe : va_A ([(p_this, .inr (5, [.ref p_text, .ref p_reader, .ref p_told, .ref p_draft, .ref p_now, .ref p_imageZero, .ref p_imageOne, .ref p_slots, .ref p_placesOf, .int d_keptImages, .long d_traced])), (p_now, .inr (0, [.ref p_now_mounts, .ref p_now_lendings, .ref p_now_log, .ref p_now_undos])), (p_now_mounts, .inr (2, [.int d_now_mounts_most, .ref p_now_mounts_cells, .int d_now_mounts_many]))] : va_W) s.heap.size = A at hD ⊢
  have hA : ∀ q : Nat, s.heap.size ≤ q → A q := fun q h => by rw [← hAe]; exact Or.inr h
  have hS : va_S A s.heap s.heap [] := va_S.rf
  refine W_abs (fun Q hQ => ?_)
  have hl := lv_entry ([.ref p_this, .int x1]) (n := 2) (Nat.le_of_ble_eq_true rfl)
  rw [lg_entry_eq]
  generalize (lg_sl ([.ref p_this, .int x1]) ++ List.replicate (2 - (lg_sl ([.ref p_this, .int x1])).length) Slot.unset).toArray = ls at hl ⊢
  have hl : lv_has ls 2 [(0, .ref p_this), (1, .int x1)] := hl
  rw [f_X5_markAsEcho] at hrun
  refine W_start (ws := [(p_this, .inr (5, [.ref p_text, .ref p_reader, .ref p_told, .ref p_draft, .ref p_now, .ref p_imageZero, .ref p_imageOne, .ref p_slots, .ref p_placesOf, .int d_keptImages, .long d_traced])), (p_now, .inr (0, [.ref p_now_mounts, .ref p_now_lendings, .ref p_now_log, .ref p_now_undos])), (p_now_mounts, .inr (2, [.int d_now_mounts_most, .ref p_now_mounts_cells, .int d_now_mounts_many]))]) hP hS (fun H locs hP hS => ?_)
  have iwX0 : ∀ w ∈ wsX00, w ∈ wsX5_markAsEcho := by decide +kernel
  have iwX2 : ∀ w ∈ wsX20, w ∈ wsX5_markAsEcho := by decide +kernel
  have iwX5 : ∀ w ∈ wsX50, w ∈ wsX5_markAsEcho := by decide +kernel
  refine lv_aload_n hx hb dX5_markAsEcho_0 rfl (lv_at hl 0 rfl) ?_
  refine lv_dup hx hb dX5_markAsEcho_1 rfl ?_
  refine va_get (D := (dC, dI)) (ci := 5) (v := .long d_traced) (C := RX5) (T := TX5) (N := 11) hx hb hts iwX5 hown hK hP 0 rfl rfl 10 (by decide) (hts (.fieldLink RX5 57 "SkyListeners" "traced" "J") (by decide +kernel)) (fun _ h9 => h9) rfl dX5_markAsEcho_2 ?_
  refine lv_ldc2 (v := 100000) hx hb hown (hts (.constantLong RX5 275 (100000)) (by decide +kernel)) dX5_markAsEcho_5 ?_
  refine lv_ladd hx hb dX5_markAsEcho_8 ?_
  refine va_put (D := (dC, dI)) (ci := 5) (v := .long (d_traced + 100000)) (ty := .long) (C := RX5) (T := TX5) (N := 11) hx hb hts iwX5 tyX5 tyX5_ok nmX5 hown hK hP hD hS 0 rfl rfl 10 (by decide) (hts (.fieldLink RX5 57 "SkyListeners" "traced" "J") (by decide +kernel)) (fun _ h9 => h9) rfl (by decide +kernel) rfl rfl (Nat.le_of_ble_eq_true rfl) dX5_markAsEcho_9 (fun H locs hP hD hS => ?_)
  have hP : va_P (dC, dI) vwCl [(p_this, .inr (5, [.ref p_text, .ref p_reader, .ref p_told, .ref p_draft, .ref p_now, .ref p_imageZero, .ref p_imageOne, .ref p_slots, .ref p_placesOf, .int d_keptImages, .long (d_traced + 100000)])), (p_now, .inr (0, [.ref p_now_mounts, .ref p_now_lendings, .ref p_now_log, .ref p_now_undos])), (p_now_mounts, .inr (2, [.int d_now_mounts_most, .ref p_now_mounts_cells, .int d_now_mounts_many]))] H := hP
  have hD : va_D A [(p_this, .inr (5, [.ref p_text, .ref p_reader, .ref p_told, .ref p_draft, .ref p_now, .ref p_imageZero, .ref p_imageOne, .ref p_slots, .ref p_placesOf, .int d_keptImages, .long (d_traced + 100000)])), (p_now, .inr (0, [.ref p_now_mounts, .ref p_now_lendings, .ref p_now_log, .ref p_now_undos])), (p_now_mounts, .inr (2, [.int d_now_mounts_most, .ref p_now_mounts_cells, .int d_now_mounts_many]))] := hD
  refine lv_aload_n hx hb dX5_markAsEcho_12 rfl (lv_at hl 0 rfl) ?_
  refine lv_iload_n hx hb dX5_markAsEcho_13 rfl (lv_at hl 1 rfl) ?_
  have hPc : va_P (dC, dI) vwCl [(p_this, .inr (5, [.ref p_text, .ref p_reader, .ref p_told, .ref p_draft, .ref p_now, .ref p_imageZero, .ref p_imageOne, .ref p_slots, .ref p_placesOf, .int d_keptImages, .long (d_traced + 100000)]))] H := hP.sub [0] rfl
  have hDc : va_D A [(p_this, .inr (5, [.ref p_text, .ref p_reader, .ref p_told, .ref p_draft, .ref p_now, .ref p_imageZero, .ref p_imageOne, .ref p_slots, .ref p_placesOf, .int d_keptImages, .long (d_traced + 100000)]))] := hD.sub [0] (by decide) rfl
  have hFc := va_free (wc := [(p_this, .inr (5, [.ref p_text, .ref p_reader, .ref p_told, .ref p_draft, .ref p_now, .ref p_imageZero, .ref p_imageOne, .ref p_slots, .ref p_placesOf, .int d_keptImages, .long (d_traced + 100000)]))]) hD hS hA [0] rfl
  refine va_calli (va_runV (As := [.int x1]) (rest := []) ⟨hx, hb, hml, hown, hts⟩ (c_X5_markAsNote l dC dI cI cZ H.size p_draft p_imageOne p_imageZero p_now p_placesOf p_reader p_slots p_text p_this p_told d_keptImages (d_traced + 100000) x1 (f_X5_markAsNote (d_traced + 100000) x1) rfl) (cwV 1 hts gX5_markAsEcho_X5_markAsNote rfl rfl rfl (by decide +kernel) ⟨Nat.le_of_ble_eq_true rfl, Nat.le_of_ble_eq_true rfl⟩) ⟨fun a U g mk q => ⟨q.1, PC.mv q.2⟩, va_recv hK hP (ci := 5) (q0 := 0) rfl rfl, fun U hU hW => ⟨rfl, PC.of hU hW hPc hK hDc hN⟩⟩ rfl rfl hl.1 rfl (lv_room (Nat.le_of_ble_eq_true rfl)) dX5_markAsEcho_14 ⟨Nat.zero_le _, Nat.zero_le _⟩) hS (fun q _ h => hFc q h) hFc (fun r_14 u t H1 locs ht hvm hw hB hz1 hk1 hS => ?_)
  obtain ⟨hP1, hD1⟩ := hB
  try dsimp only at hw
  rw [hw]
  rw [ht] at hP1
  obtain ⟨hP, hD⟩ := va_join (wr := [(p_now, .inr (0, [.ref p_now_mounts, .ref p_now_lendings, .ref p_now_log, .ref p_now_undos])), (p_now_mounts, .inr (2, [.int d_now_mounts_most, .ref p_now_mounts_cells, .int d_now_mounts_many]))]) (w1 := [(p_this, .inr (5, [.ref p_text, .ref p_reader, .ref p_told, .ref p_draft, .ref p_now, .ref p_imageZero, .ref p_imageOne, .ref p_slots, .ref p_placesOf, .int d_keptImages, .long ((f_X5_markAsNote (d_traced + 100000) x1).2)]))]) hP hD [0] [1, 2] rfl rfl (by decide) (by decide) hk1 hFc hP1 hD1
  have hP : va_P (dC, dI) vwCl [(p_this, .inr (5, [.ref p_text, .ref p_reader, .ref p_told, .ref p_draft, .ref p_now, .ref p_imageZero, .ref p_imageOne, .ref p_slots, .ref p_placesOf, .int d_keptImages, .long ((f_X5_markAsNote (d_traced + 100000) x1).2)])), (p_now, .inr (0, [.ref p_now_mounts, .ref p_now_lendings, .ref p_now_log, .ref p_now_undos])), (p_now_mounts, .inr (2, [.int d_now_mounts_most, .ref p_now_mounts_cells, .int d_now_mounts_many]))] H1 := hP.sub [2, 0, 1] rfl
  have hD : va_D A [(p_this, .inr (5, [.ref p_text, .ref p_reader, .ref p_told, .ref p_draft, .ref p_now, .ref p_imageZero, .ref p_imageOne, .ref p_slots, .ref p_placesOf, .int d_keptImages, .long ((f_X5_markAsNote (d_traced + 100000) x1).2)])), (p_now, .inr (0, [.ref p_now_mounts, .ref p_now_lendings, .ref p_now_log, .ref p_now_undos])), (p_now_mounts, .inr (2, [.int d_now_mounts_most, .ref p_now_mounts_cells, .int d_now_mounts_many]))] := hD.sub [2, 0, 1] (by decide) rfl
  clear hPc hDc hFc hk1 hz1 hP1 hD1 ht hvm
  generalize H1 = H at hP hS ⊢
  refine lv_aload_n hx hb dX5_markAsEcho_17 rfl (lv_at hl 0 rfl) ?_
  refine va_get (D := (dC, dI)) (ci := 5) (v := .ref p_now) (C := RX5) (T := TX5) (N := 11) hx hb hts iwX5 hown hK hP 0 rfl rfl 4 (by decide) (hts (.fieldLink RX5 36 "SkyListeners" "now" "LSkyListeners$Now;") (by decide +kernel)) (fun _ h9 => h9) rfl dX5_markAsEcho_18 ?_
  refine va_get (D := (dC, dI)) (ci := 0) (v := .ref p_now_mounts) (C := RX0) (T := TX0) (N := 4) hx hb hts iwX0 hown hK hP 1 rfl rfl 0 (by decide) (hts (.fieldLink RX5 115 "SkyListeners$Now" "mounts" "LSkyListeners$Rows;") (by decide +kernel)) (fun _ h9 => h9) rfl dX5_markAsEcho_21 ?_
  refine va_get (D := (dC, dI)) (ci := 2) (v := .int d_now_mounts_many) (C := RX2) (T := TX2) (N := 3) hx hb hts iwX2 hown hK hP 2 rfl rfl 2 (by decide) (hts (.fieldLink RX5 136 "SkyListeners$Rows" "many" "I") (by decide +kernel)) (fun _ h9 => h9) rfl dX5_markAsEcho_24 ?_
  refine lv_iadd hx hb dX5_markAsEcho_27 ?_
  have hrun := hrun
  subst hrun
  rw [hQ]
  exact W.iret (v := ((f_X5_markAsNote (d_traced + 100000) x1).1) + d_now_mounts_many) hx hb hr (fun t ht hW => ⟨⟨((f_X5_markAsNote (d_traced + 100000) x1).1) + d_now_mounts_many, (), rfl, rfl, by rw [ht]; exact hP, hD⟩, hS.F ht⟩) hS.2.2 dX5_markAsEcho_28
