/-! a switch on 0 .. n: what is none of them lies outside -/
theorem tab_out1 {x : Int32} (h0 : ¬ x = 0) (h1 : ¬ x = 1) : x.toInt < 0 ∨ 1 < x.toInt := by
  have a0 : ¬ x.toInt = 0 := lv_neT h0 (by decide)
  have a1 : ¬ x.toInt = 1 := lv_neT h1 (by decide)
  omega
theorem tab_out2 {x : Int32} (h0 : ¬ x = 0) (h1 : ¬ x = 1) (h2 : ¬ x = 2) : x.toInt < 0 ∨ 2 < x.toInt := by
  have a0 : ¬ x.toInt = 0 := lv_neT h0 (by decide)
  have a1 : ¬ x.toInt = 1 := lv_neT h1 (by decide)
  have a2 : ¬ x.toInt = 2 := lv_neT h2 (by decide)
  omega
theorem tab_out3 {x : Int32} (h0 : ¬ x = 0) (h1 : ¬ x = 1) (h2 : ¬ x = 2) (h3 : ¬ x = 3) : x.toInt < 0 ∨ 3 < x.toInt := by
  have a0 : ¬ x.toInt = 0 := lv_neT h0 (by decide)
  have a1 : ¬ x.toInt = 1 := lv_neT h1 (by decide)
  have a2 : ¬ x.toInt = 2 := lv_neT h2 (by decide)
  have a3 : ¬ x.toInt = 3 := lv_neT h3 (by decide)
  omega
theorem tab_out4 {x : Int32} (h0 : ¬ x = 0) (h1 : ¬ x = 1) (h2 : ¬ x = 2) (h3 : ¬ x = 3) (h4 : ¬ x = 4) : x.toInt < 0 ∨ 4 < x.toInt := by
  have a0 : ¬ x.toInt = 0 := lv_neT h0 (by decide)
  have a1 : ¬ x.toInt = 1 := lv_neT h1 (by decide)
  have a2 : ¬ x.toInt = 2 := lv_neT h2 (by decide)
  have a3 : ¬ x.toInt = 3 := lv_neT h3 (by decide)
  have a4 : ¬ x.toInt = 4 := lv_neT h4 (by decide)
  omega
theorem tab_out5 {x : Int32} (h0 : ¬ x = 0) (h1 : ¬ x = 1) (h2 : ¬ x = 2) (h3 : ¬ x = 3) (h4 : ¬ x = 4) (h5 : ¬ x = 5) : x.toInt < 0 ∨ 5 < x.toInt := by
  have a0 : ¬ x.toInt = 0 := lv_neT h0 (by decide)
  have a1 : ¬ x.toInt = 1 := lv_neT h1 (by decide)
  have a2 : ¬ x.toInt = 2 := lv_neT h2 (by decide)
  have a3 : ¬ x.toInt = 3 := lv_neT h3 (by decide)
  have a4 : ¬ x.toInt = 4 := lv_neT h4 (by decide)
  have a5 : ¬ x.toInt = 5 := lv_neT h5 (by decide)
  omega
theorem tab_out6 {x : Int32} (h0 : ¬ x = 0) (h1 : ¬ x = 1) (h2 : ¬ x = 2) (h3 : ¬ x = 3) (h4 : ¬ x = 4) (h5 : ¬ x = 5) (h6 : ¬ x = 6) : x.toInt < 0 ∨ 6 < x.toInt := by
  have a0 : ¬ x.toInt = 0 := lv_neT h0 (by decide)
  have a1 : ¬ x.toInt = 1 := lv_neT h1 (by decide)
  have a2 : ¬ x.toInt = 2 := lv_neT h2 (by decide)
  have a3 : ¬ x.toInt = 3 := lv_neT h3 (by decide)
  have a4 : ¬ x.toInt = 4 := lv_neT h4 (by decide)
  have a5 : ¬ x.toInt = 5 := lv_neT h5 (by decide)
  have a6 : ¬ x.toInt = 6 := lv_neT h6 (by decide)
  omega
theorem tab_out7 {x : Int32} (h0 : ¬ x = 0) (h1 : ¬ x = 1) (h2 : ¬ x = 2) (h3 : ¬ x = 3) (h4 : ¬ x = 4) (h5 : ¬ x = 5) (h6 : ¬ x = 6) (h7 : ¬ x = 7) : x.toInt < 0 ∨ 7 < x.toInt := by
  have a0 : ¬ x.toInt = 0 := lv_neT h0 (by decide)
  have a1 : ¬ x.toInt = 1 := lv_neT h1 (by decide)
  have a2 : ¬ x.toInt = 2 := lv_neT h2 (by decide)
  have a3 : ¬ x.toInt = 3 := lv_neT h3 (by decide)
  have a4 : ¬ x.toInt = 4 := lv_neT h4 (by decide)
  have a5 : ¬ x.toInt = 5 := lv_neT h5 (by decide)
  have a6 : ¬ x.toInt = 6 := lv_neT h6 (by decide)
  have a7 : ¬ x.toInt = 7 := lv_neT h7 (by decide)
  omega
theorem tab_out8 {x : Int32} (h0 : ¬ x = 0) (h1 : ¬ x = 1) (h2 : ¬ x = 2) (h3 : ¬ x = 3) (h4 : ¬ x = 4) (h5 : ¬ x = 5) (h6 : ¬ x = 6) (h7 : ¬ x = 7) (h8 : ¬ x = 8) : x.toInt < 0 ∨ 8 < x.toInt := by
  have a0 : ¬ x.toInt = 0 := lv_neT h0 (by decide)
  have a1 : ¬ x.toInt = 1 := lv_neT h1 (by decide)
  have a2 : ¬ x.toInt = 2 := lv_neT h2 (by decide)
  have a3 : ¬ x.toInt = 3 := lv_neT h3 (by decide)
  have a4 : ¬ x.toInt = 4 := lv_neT h4 (by decide)
  have a5 : ¬ x.toInt = 5 := lv_neT h5 (by decide)
  have a6 : ¬ x.toInt = 6 := lv_neT h6 (by decide)
  have a7 : ¬ x.toInt = 7 := lv_neT h7 (by decide)
  have a8 : ¬ x.toInt = 8 := lv_neT h8 (by decide)
  omega
/-- a call's answer, where the whole came to one -/
theorem bind_out {α β : Type} {x : Option α} {f : α → Option β} {b : β} (h : x.bind f = some b) : ∃ a, x = some a ∧ f a = some b := by
  cases x with
  | none => cases h
  | some a => exact ⟨a, rfl, h⟩
