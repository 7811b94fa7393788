/-! The class's cut is the cut of the list of boxes. -/
theorem mx_toInt (a b : Int32) : (mxI a b).toInt = max a.toInt b.toInt := by
  by_cases h : a < b
  · rw [show mxI a b = b from if_pos h]; have := Int32.lt_iff_toInt_lt.mp h; omega
  · rw [show mxI a b = a from if_neg h]; have : ¬ a.toInt < b.toInt := fun q => h (Int32.lt_iff_toInt_lt.mpr q); omega
theorem mn_toInt (a b : Int32) : (mnI a b).toInt = min a.toInt b.toInt := by
  by_cases h : b < a
  · rw [show mnI a b = b from if_pos h]; have := Int32.lt_iff_toInt_lt.mp h; omega
  · rw [show mnI a b = a from if_neg h]; have : ¬ b.toInt < a.toInt := fun q => h (Int32.lt_iff_toInt_lt.mpr q); omega
theorem sub_toInt {a b : Int32} (h1 : -1000000000 ≤ a.toInt - b.toInt) (h2 : a.toInt - b.toInt ≤ 1000000000) : (a - b).toInt = a.toInt - b.toInt := by
  rw [Int32.toInt_sub]; exact Int.bmod_eq_of_le (by omega) (by omega)
theorem add_toInt {a b : Int32} (h1 : -1000000000 ≤ a.toInt + b.toInt) (h2 : a.toInt + b.toInt ≤ 1000000000) : (a + b).toInt = a.toInt + b.toInt := by
  rw [Int32.toInt_add]; exact Int.bmod_eq_of_le (by omega) (by omega)
theorem mul64 {a b : Int64} {x y : Int} (ha : a.toInt = x) (hb : b.toInt = y) (h1 : -9000000000000000000 ≤ x * y) (h2 : x * y ≤ 9000000000000000000) : (a * b).toInt = x * y := by
  rw [Int64.toInt_mul, ha, hb]; exact Int.bmod_eq_of_le (by omega) (by omega)
theorem add64 {a b : Int64} {x y : Int} (ha : a.toInt = x) (hb : b.toInt = y) (h1 : -9000000000000000000 ≤ x + y) (h2 : x + y ≤ 9000000000000000000) : (a + b).toInt = x + y := by
  rw [Int64.toInt_add, ha, hb]; exact Int.bmod_eq_of_le (by omega) (by omega)
/-- a box with a body, not far away -/
def okB (b : Bx) : Prop := (-4000 ≤ b.1.toInt ∧ b.1.toInt < b.2.2.2.1.toInt ∧ b.2.2.2.1.toInt ≤ 4000) ∧ (-4000 ≤ b.2.1.toInt ∧ b.2.1.toInt < b.2.2.2.2.1.toInt ∧ b.2.2.2.2.1.toInt ≤ 4000) ∧ (-4000 ≤ b.2.2.1.toInt ∧ b.2.2.1.toInt < b.2.2.2.2.2.toInt ∧ b.2.2.2.2.2.toInt ≤ 4000)
/-- the length of what two spans have in common -/
abbrev lnI (x X t T : Int) : Int := min X T - max x t
abbrev lnB0 (b t : Bx) : Int := lnI b.1.toInt b.2.2.2.1.toInt t.1.toInt t.2.2.2.1.toInt
abbrev lnB1 (b t : Bx) : Int := lnI b.2.1.toInt b.2.2.2.2.1.toInt t.2.1.toInt t.2.2.2.2.1.toInt
abbrev lnB2 (b t : Bx) : Int := lnI b.2.2.1.toInt b.2.2.2.2.2.toInt t.2.2.1.toInt t.2.2.2.2.2.toInt
/-- the volume in common -/
def voB (b t : Bx) : Int := (max 0 (lnB0 b t) * max 0 (lnB1 b t)) * max 0 (lnB2 b t)
theorem len_toInt {x X t T : Int32} (h1 : -4000 ≤ x.toInt ∧ x.toInt < X.toInt ∧ X.toInt ≤ 4000) (h2 : -4000 ≤ t.toInt ∧ t.toInt < T.toInt ∧ T.toInt ≤ 4000) : (mnI X T - mxI x t).toInt = lnI x.toInt X.toInt t.toInt T.toInt := by
  have a := mn_toInt X T; have b := mx_toInt x t
  rw [sub_toInt (by omega) (by omega), a, b]
theorem pos_toInt (x : Int32) : (mxI (nI 0) x).toInt64.toInt = max 0 x.toInt := by
  rw [Int32.toInt_toInt64, mx_toInt]; rfl
theorem ln_b {x X t T : Int} (h1 : -4000 ≤ x ∧ x < X ∧ X ≤ 4000) (h2 : -4000 ≤ t ∧ t < T ∧ T ≤ 4000) : 0 ≤ max 0 (lnI x X t T) ∧ max 0 (lnI x X t T) ≤ 8000 := by unfold lnI; omega
theorem mul_b {x y a b : Int} (h1 : 0 ≤ x ∧ x ≤ a) (h2 : 0 ≤ y ∧ y ≤ b) : 0 ≤ x * y ∧ x * y ≤ a * b := ⟨Int.mul_nonneg h1.1 h2.1, Int.mul_le_mul h1.2 h2.2 h2.1 (Int.le_trans h1.1 h1.2)⟩
theorem mul3 {a b c : Int64} {x y z : Int} (ha : a.toInt = x) (hb : b.toInt = y) (hc : c.toInt = z) (b0 : 0 ≤ x ∧ x ≤ 8000) (b1 : 0 ≤ y ∧ y ≤ 8000) (b2 : 0 ≤ z ∧ z ≤ 8000) : (a * b * c).toInt = x * y * z := by
  have m1 := mul_b b0 b1; have m2 := mul_b m1 b2
  exact mul64 (mul64 ha hb (by omega) (by omega)) hc (by omega) (by omega)
theorem pos3 {x y z : Int} : 0 < max 0 x * max 0 y * max 0 z ↔ 0 < x ∧ 0 < y ∧ 0 < z := by
  constructor
  · intro h
    refine ⟨?_, ?_, ?_⟩
    · apply Classical.byContradiction; intro q
      rw [show max 0 x = 0 by omega, Int.zero_mul, Int.zero_mul] at h; exact absurd h (by omega)
    · apply Classical.byContradiction; intro q
      rw [show max 0 y = 0 by omega, Int.mul_zero, Int.zero_mul] at h; exact absurd h (by omega)
    · apply Classical.byContradiction; intro q
      rw [show max 0 z = 0 by omega, Int.mul_zero] at h; exact absurd h (by omega)
  · rintro ⟨q0, q1, q2⟩
    exact Int.mul_pos (Int.mul_pos (by omega) (by omega)) (by omega)
theorem volS_toInt {f h : Nat → Int32} {i j : Nat} (h1 : okB (gb f i)) (h2 : okB (gb h j)) : (volS f i h j).toInt = voB (gb f i) (gb h j) := by
  have l0 : (mxI (nI 0) (lenS f i h j 0)).toInt64.toInt = max 0 (lnB0 (gb f i) (gb h j)) := by rw [pos_toInt]; exact congrArg (max 0) (len_toInt (x := f i) (X := f (i + 3)) (t := h j) (T := h (j + 3)) h1.1 h2.1)
  have l1 : (mxI (nI 0) (lenS f i h j 1)).toInt64.toInt = max 0 (lnB1 (gb f i) (gb h j)) := by rw [pos_toInt]; exact congrArg (max 0) (len_toInt (x := f (i + 1)) (X := f (i + 4)) (t := h (j + 1)) (T := h (j + 4)) h1.2.1 h2.2.1)
  have l2 : (mxI (nI 0) (lenS f i h j 2)).toInt64.toInt = max 0 (lnB2 (gb f i) (gb h j)) := by rw [pos_toInt]; exact congrArg (max 0) (len_toInt (x := f (i + 2)) (X := f (i + 5)) (t := h (j + 2)) (T := h (j + 5)) h1.2.2 h2.2.2)
  have e1 : ((1 : Int64) * (mxI (nI 0) (lenS f i h j 0)).toInt64).toInt = max 0 (lnB0 (gb f i) (gb h j)) := by rw [Int64.one_mul]; exact l0
  exact mul3 e1 l1 l2 (ln_b h1.1 h2.1) (ln_b h1.2.1 h2.2.1) (ln_b h1.2.2 h2.2.2)
theorem voB_pos {b t : Bx} (h1 : okB b) (h2 : okB t) : 0 < voB b t ↔ mt b t := by
  unfold voB
  rw [pos3]
  obtain ⟨a0, a1, a2⟩ := h1
  obtain ⟨c0, c1, c2⟩ := h2
  simp only [mt, Int32.le_iff_toInt_le]
  unfold lnB0 lnB1 lnB2 lnI
  omega
theorem volS_pos {f h : Nat → Int32} {i j : Nat} (h1 : okB (gb f i)) (h2 : okB (gb h j)) : 0 < volS f i h j ↔ mt (gb f i) (gb h j) := by
  rw [← voB_pos h1 h2, ← volS_toInt h1 h2, Int64.lt_iff_toInt_lt]; rfl
/-- the count of a row, and its boxes while there is room -/
def cI (n : Nat) (fb : Nat → Int32) (L : List Bx) : Prop := n = L.length ∧ (n ≤ 24 → bl fb 0 n = L)
theorem adB_app {n : Nat} {fb : Nat → Int32} {L : List Bx} (h : cI n fb L) (f : Nat → Int32) (o : Nat) : cI (n + 1) (adB fb n f o) (L ++ [gb f o]) := by
  refine ⟨by rw [List.length_append, ← h.1]; rfl, fun hn => ?_⟩
  have hlt : n < 24 := by omega
  rw [show adB fb n f o = va_cpy f fb o (n * 6) 6 from if_pos hlt]
  refine bl_app (h.2 (by omega)) (fun j hj => ?_) (gb_congr fun j hj => ?_)
  · unfold va_cpy; rw [if_neg (by omega)]
  · unfold va_cpy; rw [if_pos (by omega)]; congr 1; omega
theorem slB_app {n : Nat} {fb : Nat → Int32} {L : List Bx} (h : cI n fb L) (r : Nat → Int32) (k : Nat) (a b : Int32) : cI (slN n a b) (slB fb n r k a b) (L ++ (if a < b then [gb (upd (upd r k a) (k + 3) b) 0] else [])) := by
  unfold slN slB
  by_cases q : a < b
  · rw [if_pos q, if_pos q, if_pos q]; exact adB_app h _ _
  · rw [if_neg q, if_neg q, if_neg q, List.append_nil]; exact h
theorem lt_mx {a b : Int32} : a < mxI a b ↔ ¬ b ≤ a := by
  rw [Int32.lt_iff_toInt_lt, mx_toInt, Int32.le_iff_toInt_le]; omega
theorem mn_lt {a b : Int32} : mnI a b < a ↔ ¬ a ≤ b := by
  rw [Int32.lt_iff_toInt_lt, mn_toInt, Int32.le_iff_toInt_le]; omega
theorem mx_of {a b : Int32} (h : ¬ b ≤ a) : mxI a b = b := if_pos (Int32.not_le.mp h)
theorem mn_of {a b : Int32} (h : ¬ a ≤ b) : mnI a b = b := if_pos (Int32.not_le.mp h)
theorem ax_p {r : Nat → Int32} {k : Nat} {t : Int32} {p : Bx} (hp : ∀ v, v = t → gb (upd (upd r k (r k)) (k + 3) v) 0 = p) : (if r k < mxI (r k) t then [gb (upd (upd r k (r k)) (k + 3) (mxI (r k) t)) 0] else []) = (if ¬ t ≤ r k then [p] else []) := by
  by_cases h : t ≤ r k
  · rw [if_neg (fun q => lt_mx.mp q h), if_neg (fun q => q h)]
  · rw [if_pos (lt_mx.mpr h), if_pos h, hp _ (mx_of h)]
theorem ax_q {r r' : Nat → Int32} {k : Nat} {t : Int32} {p : Bx} (hp : ∀ v, v = t → gb (upd (upd r' k v) (k + 3) (r (k + 3))) 0 = p) : (if mnI (r (k + 3)) t < r (k + 3) then [gb (upd (upd r' k (mnI (r (k + 3)) t)) (k + 3) (r (k + 3))) 0] else []) = (if ¬ r (k + 3) ≤ t then [p] else []) := by
  by_cases h : r (k + 3) ≤ t
  · rw [if_neg (fun q => mn_lt.mp q h), if_neg (fun q => q h)]
  · rw [if_pos (mn_lt.mpr h), if_pos h, hp _ (mn_of h)]
theorem slR_o (r : Nat → Int32) {k j : Nat} (a b : Int32) (h1 : j ≠ k) (h2 : j ≠ k + 3) : slR r k a b j = r j := by
  unfold slR; split
  · rw [upd_o h2, upd_o h1]
  · rfl
theorem axR_o (t r : Nat → Int32) {k j : Nat} (h1 : j ≠ k) (h2 : j ≠ k + 3) : axR t r k j = r j := by
  unfold axR; rw [upd_o h2, upd_o h1, slR_o _ _ _ h1 h2, slR_o _ _ _ h1 h2]
theorem axR_lo (t r : Nat → Int32) (k : Nat) : axR t r k k = mxI (r k) (t k) := by
  unfold axR; rw [upd_o (by omega)]; exact pk_us
theorem axR_hi (t r : Nat → Int32) (k : Nat) : axR t r k (k + 3) = mnI (r (k + 3)) (t (k + 3)) := by
  unfold axR; exact pk_us
theorem cg6 {α : Type} {L A0 A1 A2 A3 A4 A5 B0 B1 B2 B3 B4 B5 : List α} (h0 : A0 = B0) (h1 : A1 = B1) (h2 : A2 = B2) (h3 : A3 = B3) (h4 : A4 = B4) (h5 : A5 = B5) : (((((L ++ A0) ++ A1) ++ A2) ++ A3) ++ A4) ++ A5 = L ++ (((((B0 ++ B1) ++ B2) ++ B3) ++ B4) ++ B5) := by
  subst h0 h1 h2 h3 h4 h5; exact app6 _ _ _ _ _ _ _
theorem rs_app {n : Nat} {fb : Nat → Int32} {L : List Bx} (h : cI n fb L) (t q : Nat → Int32) : cI (rsN t q n) (rsB t q fb n) (L ++ rem (gb q 0) (gb t 0)) := by
  have a1 := slB_app h q 0 (q 0) (axF t q 0)
  have a2 := slB_app a1 (slR q 0 (q 0) (axF t q 0)) 0 (axT t q 0) (q (0 + 3))
  generalize hq1 : axR t q 0 = q1 at *
  have b1 := slB_app (n := axN t q n 0) (fb := axB t q fb n 0) a2 q1 1 (q1 1) (axF t q1 1)
  have b2 := slB_app b1 (slR q1 1 (q1 1) (axF t q1 1)) 1 (axT t q1 1) (q1 (1 + 3))
  generalize hq2 : axR t q1 1 = q2 at *
  have c1 := slB_app (n := axN t q1 (axN t q n 0) 1) (fb := axB t q1 (axB t q fb n 0) (axN t q n 0) 1) b2 q2 2 (q2 2) (axF t q2 2)
  have c2 := slB_app c1 (slR q2 2 (q2 2) (axF t q2 2)) 2 (axT t q2 2) (q2 (2 + 3))
  have e10 : q1 0 = mxI (q 0) (t 0) := by rw [← hq1]; exact axR_lo t q 0
  have e13 : q1 3 = mnI (q 3) (t 3) := by rw [← hq1]; exact axR_hi t q 0
  have e1 : ∀ j, j ≠ 0 → j ≠ 3 → q1 j = q j := fun j h1 h2 => by rw [← hq1]; exact axR_o t q h1 h2
  have e21 : q2 1 = mxI (q 1) (t 1) := by rw [← hq2, axR_lo, e1 1 (by decide) (by decide)]
  have e24 : q2 4 = mnI (q 4) (t 4) := by rw [← hq2, show (4 : Nat) = 1 + 3 from rfl, axR_hi, e1 (1 + 3) (by decide) (by decide)]
  have e2 : ∀ j, j ≠ 1 → j ≠ 4 → q2 j = q1 j := fun j h1 h2 => by rw [← hq2]; exact axR_o t q1 h1 h2
  have p0 := ax_p (r := q) (k := 0) (t := t 0) (p := (q 0, q 1, q 2, t 0, q 4, q 5)) (fun v hv => by subst hv; simp [gb, upd])
  have p1 := ax_q (r := q) (r' := slR q 0 (q 0) (axF t q 0)) (k := 0) (t := t 3) (p := (t 3, q 1, q 2, q 3, q 4, q 5)) (fun v hv => by subst hv; unfold slR; split <;> simp [gb, upd])
  have p2 := ax_p (r := q1) (k := 1) (t := t 1) (p := (mxI (q 0) (t 0), q 1, q 2, mnI (q 3) (t 3), t 1, q 5)) (fun v hv => by subst hv; rw [← e10, ← e13, ← e1 1 (by decide) (by decide), ← e1 2 (by decide) (by decide), ← e1 5 (by decide) (by decide)]; simp [gb, upd])
  have p3 := ax_q (r := q1) (r' := slR q1 1 (q1 1) (axF t q1 1)) (k := 1) (t := t 4) (p := (mxI (q 0) (t 0), t 4, q 2, mnI (q 3) (t 3), q 4, q 5)) (fun v hv => by subst hv; rw [← e10, ← e13, ← e1 4 (by decide) (by decide), ← e1 2 (by decide) (by decide), ← e1 5 (by decide) (by decide)]; unfold slR; split <;> simp [gb, upd])
  have p4 := ax_p (r := q2) (k := 2) (t := t 2) (p := (mxI (q 0) (t 0), mxI (q 1) (t 1), q 2, mnI (q 3) (t 3), mnI (q 4) (t 4), t 2)) (fun v hv => by subst hv; rw [← e10, ← e13, ← e21, ← e24, ← e1 2 (by decide) (by decide), ← e2 0 (by decide) (by decide), ← e2 3 (by decide) (by decide), ← e2 2 (by decide) (by decide)]; simp [gb, upd])
  have p5 := ax_q (r := q2) (r' := slR q2 2 (q2 2) (axF t q2 2)) (k := 2) (t := t 5) (p := (mxI (q 0) (t 0), mxI (q 1) (t 1), t 5, mnI (q 3) (t 3), mnI (q 4) (t 4), q 5)) (fun v hv => by subst hv; rw [← e10, ← e13, ← e21, ← e24, ← e1 5 (by decide) (by decide), ← e2 0 (by decide) (by decide), ← e2 3 (by decide) (by decide), ← e2 5 (by decide) (by decide)]; unfold slR; split <;> simp [gb, upd])
  have e : (((((L ++ _) ++ _) ++ _) ++ _) ++ _) ++ _ = L ++ rem (gb q 0) (gb t 0) := cg6 p0 p1 (p2.trans (by rw [e1 1 (by decide) (by decide)]; rfl)) (p3.trans (by rw [show q1 (1 + 3) = q 4 from e1 4 (by decide) (by decide)]; rfl)) (p4.trans (by rw [show q2 2 = q 2 from (e2 2 (by decide) (by decide)).trans (e1 2 (by decide) (by decide))]; rfl)) (p5.trans (by rw [show q2 (2 + 3) = q 5 from (e2 5 (by decide) (by decide)).trans (e1 5 (by decide) (by decide))]; rfl))
  have c3 := c2
  rw [e] at c3
  subst hq2; subst hq1
  exact c3
/-- the class's cut, box by box -/
theorem cv_cut {f t r0 b0 : Nat → Int32} (ht : okB (gb t 0)) (n : Nat) (hok : ∀ b ∈ bl f 0 n, okB b) : cI (cv f t r0 b0 n).2.1 (cv f t r0 b0 n).2.2 (cutL (gb t 0) (bl f 0 n)) := by
  induction n with
  | zero => exact ⟨rfl, fun _ => rfl⟩
  | succ n ih =>
    rw [bl_s] at hok
    have ih := ih (fun b hb => hok b (List.mem_append_left _ hb))
    have hb : okB (gb f (n * 6)) := by
      have := hok (gb f (0 + 6 * n)) (List.mem_append_right _ (List.mem_singleton.mpr rfl))
      rw [show 0 + 6 * n = n * 6 by omega] at this; exact this
    rw [bl_s, cutL_app, show 0 + 6 * n = n * 6 by omega, cv_s]
    by_cases h : mt (gb f (n * 6)) (gb t 0)
    · rw [if_pos ((volS_pos hb ht).mpr h), show cutB (gb t 0) (gb f (n * 6)) = rem (gb f (n * 6)) (gb t 0) from if_pos h]
      have := rs_app ih t (va_cpy f (cv f t r0 b0 n).1 (n * 6) 0 6)
      rw [show gb (va_cpy f (cv f t r0 b0 n).1 (n * 6) 0 6) 0 = gb f (n * 6) from gb_congr fun j hj => by unfold va_cpy; rw [if_pos (by omega)]; congr 1; omega] at this
      exact this
    · rw [if_neg (fun q => h ((volS_pos hb ht).mp q)), show cutB (gb t 0) (gb f (n * 6)) = [gb f (n * 6)] from if_neg h]
      exact adB_app ih _ _
