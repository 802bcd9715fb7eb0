/-! what a write elsewhere leaves as it was; rows that are added -/
theorem RMt_c {many : Int32} {cells st st' : Nat → Int32} {o o' nD : Nat} (h : RMt many cells st o nD) (hD : nD ≤ 5) (e : ∀ j, j < 5 → st' (o' + 3 + j) = st (o + 3 + j)) : RMt many cells st' o' nD :=
  ⟨h.1, fun d hd => by rw [e d (by omega)]; exact h.2 d hd⟩
theorem RLe_c {many : Int32} {cells st st' : Nat → Int32} {o o' nD nA nL : Nat} (h : RLe many cells st o nD nA nL) (e0 : st' o' = st o) (e : ∀ j, j < 36 → st' (o' + 8 + j) = st (o + 8 + j)) : RLe many cells st' o' nD nA nL := by
  obtain ⟨h1, h2, h3, h4⟩ := h
  refine ⟨h1, h2, e0.trans h3, fun i hi => ?_⟩
  have a0 := e (3 * i) (by omega)
  have a1 := e (3 * i + 1) (by omega)
  have a2 := e (3 * i + 2) (by omega)
  rw [show o' + 8 + (3 * i + 1) = o' + 8 + 3 * i + 1 by omega, show o + 8 + (3 * i + 1) = o + 8 + 3 * i + 1 by omega] at a1
  rw [show o' + 8 + (3 * i + 2) = o' + 8 + 3 * i + 2 by omega, show o + 8 + (3 * i + 2) = o + 8 + 3 * i + 2 by omega] at a2
  rw [a0, a1, a2]
  exact h4 i hi
theorem RLo_c {many : Int32} {cells st st' : Nat → Int32} {o o' nD nG : Nat} (h : RLo many cells st o nD nG) (e0 : st' (o' + 1) = st (o + 1)) (e : ∀ j, j < 40 → st' (o' + 44 + j) = st (o + 44 + j)) : RLo many cells st' o' nD nG := by
  obtain ⟨h1, h2, h3, h4⟩ := h
  refine ⟨h1, h2, e0.trans h3, fun i hi => ?_⟩
  have a0 := e (4 * i) (by omega)
  have a1 := e (4 * i + 1) (by omega)
  have a2 := e (4 * i + 2) (by omega)
  have a3 := e (4 * i + 3) (by omega)
  rw [show o' + 44 + (4 * i + 1) = o' + 44 + 4 * i + 1 by omega, show o + 44 + (4 * i + 1) = o + 44 + 4 * i + 1 by omega] at a1
  rw [show o' + 44 + (4 * i + 2) = o' + 44 + 4 * i + 2 by omega, show o + 44 + (4 * i + 2) = o + 44 + 4 * i + 2 by omega] at a2
  rw [show o' + 44 + (4 * i + 3) = o' + 44 + 4 * i + 3 by omega, show o + 44 + (4 * i + 3) = o + 44 + 4 * i + 3 by omega] at a3
  rw [a0, a1, a2, a3]
  exact h4 i hi
theorem cntU_c {st st' : Nat → Int32} {o o' : Nat} (e : ∀ j, j < 20 → st' (o' + 84 + j) = st (o + 84 + j)) : ∀ n, n ≤ 10 → cntU st' o' n = cntU st o n := by
  intro n
  induction n with
  | zero => intro _; rfl
  | succ n ih =>
    intro hn
    rw [cntU, cntU, ih (by omega), e (2 * n) (by omega)]
theorem RUn_c {many : Int32} {cells st st' : Nat → Int32} {o o' nD nL nU : Nat} (h : RUn many cells st o nD nL nU) (e0 : st' (o' + 2) = st (o + 2)) (e : ∀ j, j < 20 → st' (o' + 84 + j) = st (o + 84 + j)) : RUn many cells st' o' nD nL nU := by
  obtain ⟨h1, h2, h3, h4, h5⟩ := h
  refine ⟨h1, h2, e0.trans h3, by rw [cntU_c e nU h2]; exact h4, fun i hi => ?_⟩
  have a0 := e (2 * i) (by omega)
  have a1 := e (2 * i + 1) (by omega)
  rw [show o' + 84 + (2 * i + 1) = o' + 84 + 2 * i + 1 by omega, show o + 84 + (2 * i + 1) = o + 84 + 2 * i + 1 by omega] at a1
  rw [a0, a1]
  exact h5 i hi
theorem RNow_c {mm : Int32} {mc : Nat → Int32} {lm : Int32} {lc : Nat → Int32} {gm : Int32} {gc : Nat → Int32} {um : Int32} {uc st st' : Nat → Int32} {o o' nD nA : Nat} (h : RNow mm mc lm lc gm gc um uc st o nD nA) (hD : nD ≤ 5) (e : ∀ j, j < 104 → st' (o' + j) = st (o + j)) : RNow mm mc lm lc gm gc um uc st' o' nD nA := by
  obtain ⟨h1, nL, nG, nU, h2, h3, h4⟩ := h
  refine ⟨RMt_c h1 hD fun j hj => ?_, nL, nG, nU, RLe_c h2 (e 0 (by omega)) fun j hj => ?_, RLo_c h3 (e 1 (by omega)) fun j hj => ?_, RUn_c h4 (e 2 (by omega)) fun j hj => ?_⟩
  · rw [Nat.add_assoc, Nat.add_assoc]; exact e (3 + j) (by omega)
  · rw [Nat.add_assoc, Nat.add_assoc]; exact e (8 + j) (by omega)
  · rw [Nat.add_assoc, Nat.add_assoc]; exact e (44 + j) (by omega)
  · rw [Nat.add_assoc, Nat.add_assoc]; exact e (84 + j) (by omega)
theorem e_full0 {m mo : Nat} (h : m < mo) (hm : mo ≤ 12) : f_X2_isFull (nI mo) (nI m) = 0 := by
  unfold f_X2_isFull
  rw [if_pos (nI_lt h (by omega))]
theorem e_full1 {m mo : Nat} (h : mo ≤ m) (hm : m ≤ 12) : f_X2_isFull (nI mo) (nI m) = 1 := by
  unfold f_X2_isFull
  rw [if_neg (nI_nlt h (by omega))]
theorem e_set {m r w : Nat} {c : Nat → Int32} {v : Int32} (hr : r < m) (hm : m ≤ 12) (hw : w < 4) : f_X2_set (nI m) c (nI r) (nI w) v = upd c (4 * r + w) v := by
  unfold f_X2_set
  rw [e_has hr (by omega) hw, if_neg (by decide), show nI r * 4 + nI w = nI (4 * r + w) from by rw [show (4 : Int32) = nI 4 from rfl, pk_mul, nI_add, Nat.mul_comm]]
  exact e_put (by omega) (by decide)
/-- a row put behind the others -/
def rowU (c : Nat → Int32) (m : Nat) (a b d e : Int32) : Nat → Int32 := upd (upd (upd (upd c (4 * m) a) (4 * m + 1) b) (4 * m + 2) d) (4 * m + 3) e
theorem rowU_0 {c : Nat → Int32} {m : Nat} {a b d e : Int32} : rowU c m a b d e (4 * m) = a := by
  unfold rowU; rw [pk_un (by omega), pk_un (by omega), pk_un (by omega), pk_us]
theorem rowU_1 {c : Nat → Int32} {m : Nat} {a b d e : Int32} : rowU c m a b d e (4 * m + 1) = b := by
  unfold rowU; rw [pk_un (by omega), pk_un (by omega), pk_us]
theorem rowU_2 {c : Nat → Int32} {m : Nat} {a b d e : Int32} : rowU c m a b d e (4 * m + 2) = d := by
  unfold rowU; rw [pk_un (by omega), pk_us]
theorem rowU_3 {c : Nat → Int32} {m : Nat} {a b d e : Int32} : rowU c m a b d e (4 * m + 3) = e := by
  unfold rowU; rw [pk_us]
theorem rowU_n {c : Nat → Int32} {m j : Nat} {a b d e : Int32} (h : j < 4 * m) : rowU c m a b d e j = c j := by
  unfold rowU; rw [pk_un (by omega), pk_un (by omega), pk_un (by omega), pk_un (by omega)]
theorem e_add {m mo : Nat} {c : Nat → Int32} {a b d e : Int32} (h : m < mo) (hm : mo ≤ 12) : f_X2_add (nI mo) (nI m) c a b d e = (nI (m + 1), rowU c m a b d e) := by
  unfold f_X2_add
  rw [e_full0 h hm, if_pos rfl, nI_1, nI_pred]
  have s0 := fun c v => e_set (m := m + 1) (r := m) (w := 0) (c := c) (v := v) (by omega) (by omega) (by decide)
  have s1 := fun c v => e_set (m := m + 1) (r := m) (w := 1) (c := c) (v := v) (by omega) (by omega) (by decide)
  have s2 := fun c v => e_set (m := m + 1) (r := m) (w := 2) (c := c) (v := v) (by omega) (by omega) (by decide)
  have s3 := fun c v => e_set (m := m + 1) (r := m) (w := 3) (c := c) (v := v) (by omega) (by omega) (by decide)
  have t0 : ∀ c v, f_X2_set (nI (m + 1)) c (nI m) 0 v = upd c (4 * m + 0) v := s0
  have t1 : ∀ c v, f_X2_set (nI (m + 1)) c (nI m) 1 v = upd c (4 * m + 1) v := s1
  have t2 : ∀ c v, f_X2_set (nI (m + 1)) c (nI m) 2 v = upd c (4 * m + 2) v := s2
  have t3 : ∀ c v, f_X2_set (nI (m + 1)) c (nI m) 3 v = upd c (4 * m + 3) v := s3
  rw [t0, t1, t2, t3]
  rfl
