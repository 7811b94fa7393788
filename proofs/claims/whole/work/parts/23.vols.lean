/-! Volumes and areas: both sides count alike; a cut takes away what it has in common. -/
def vM (b : Bx) : Int64 := ((b.2.2.2.1 - b.1).toInt64 * (b.2.2.2.2.1 - b.2.1).toInt64) * (b.2.2.2.2.2 - b.2.2.1).toInt64
theorem mn_self (x : Int32) : mnI x x = x := ite_self x
theorem mx_self (x : Int32) : mxI x x = x := ite_self x
theorem mx0_pos {x : Int32} (h : 0 < x.toInt) : mxI (nI 0) x = x := if_pos (Int32.lt_iff_toInt_lt.mpr (show (nI 0).toInt < x.toInt from h))
theorem ln_self {x X : Int32} (h : -4000 ≤ x.toInt ∧ x.toInt < X.toInt ∧ X.toInt ≤ 4000) : ln64 x X x X = (X - x).toInt64 := by
  unfold ln64; rw [mn_self, mx_self, mx0_pos (by rw [sub_toInt (by omega) (by omega)]; omega)]
theorem vJ_vM {b : Bx} (h : okB b) : vJ b b = vM b := by
  unfold vJ vM; rw [ln_self h.1, ln_self h.2.1, ln_self h.2.2, Int64.one_mul]
theorem totS_L (f : Nat → Int32) (n : Nat) : totS f n = sL (fun b => vJ b b) (bl f 0 n) := by
  unfold totS
  refine sm_sL n (fun i _ => ?_)
  rw [volS_vJ, Nat.zero_add, Nat.mul_comm]
theorem voM_L (f : Nat → Int32) (a n : Nat) : voM f a n = sL vM (bl f (144 * a) n) := by
  unfold voM
  exact sm_sL n (fun i _ => rfl)
/-- the volume of boxes, as a whole number -/
def bv (b : Bx) : Int := ((b.2.2.2.1.toInt - b.1.toInt) * (b.2.2.2.2.1.toInt - b.2.1.toInt)) * (b.2.2.2.2.2.toInt - b.2.2.1.toInt)
def sI (v : Bx → Int) : List Bx → Int
  | [] => 0
  | b :: L => v b + sI v L
theorem sI_app (v : Bx → Int) (L M : List Bx) : sI v (L ++ M) = sI v L + sI v M := by
  induction L with
  | nil => show sI v M = 0 + sI v M; omega
  | cons b L ih => show v b + sI v (L ++ M) = (v b + sI v L) + sI v M; rw [ih]; omega
theorem vM_toInt {b : Bx} (h : okB b) : (vM b).toInt = bv b ∧ 0 < bv b ∧ bv b ≤ 512000000000 := by
  have l0 : (b.2.2.2.1 - b.1).toInt64.toInt = b.2.2.2.1.toInt - b.1.toInt := by rw [Int32.toInt_toInt64, sub_toInt (by have := h.1; omega) (by have := h.1; omega)]
  have l1 : (b.2.2.2.2.1 - b.2.1).toInt64.toInt = b.2.2.2.2.1.toInt - b.2.1.toInt := by rw [Int32.toInt_toInt64, sub_toInt (by have := h.2.1; omega) (by have := h.2.1; omega)]
  have l2 : (b.2.2.2.2.2 - b.2.2.1).toInt64.toInt = b.2.2.2.2.2.toInt - b.2.2.1.toInt := by rw [Int32.toInt_toInt64, sub_toInt (by have := h.2.2; omega) (by have := h.2.2; omega)]
  obtain ⟨h0, h1, h2⟩ := h
  have b0 : 0 ≤ b.2.2.2.1.toInt - b.1.toInt ∧ b.2.2.2.1.toInt - b.1.toInt ≤ 8000 := by omega
  have b1 : 0 ≤ b.2.2.2.2.1.toInt - b.2.1.toInt ∧ b.2.2.2.2.1.toInt - b.2.1.toInt ≤ 8000 := by omega
  have b2 : 0 ≤ b.2.2.2.2.2.toInt - b.2.2.1.toInt ∧ b.2.2.2.2.2.toInt - b.2.2.1.toInt ≤ 8000 := by omega
  refine ⟨mul3 l0 l1 l2 b0 b1 b2, Int.mul_pos (Int.mul_pos (by omega) (by omega)) (by omega), ?_⟩
  have m := mul_b (mul_b b0 b1) b2
  unfold bv; omega
theorem sL_toInt {L : List Bx} (hL : ∀ b ∈ L, okB b) (hn : L.length ≤ 1000) : (sL vM L).toInt = sI bv L ∧ 0 ≤ sI bv L ∧ sI bv L ≤ 512000000000 * (L.length : Int) := by
  induction L with
  | nil => exact ⟨rfl, Int.le_refl _, by show (0 : Int) ≤ _; simp⟩
  | cons b L ih =>
    rw [List.length_cons] at hn
    obtain ⟨i1, i2, i3⟩ := ih (fun c hc => hL c (List.mem_cons_of_mem _ hc)) (by omega)
    obtain ⟨v1, v2, v3⟩ := vM_toInt (hL b List.mem_cons_self)
    have hl : (L.length : Int) ≤ 999 := by omega
    refine ⟨add64 v1 i1 (by omega) (by omega), ?_, ?_⟩
    · show 0 ≤ bv b + sI bv L; omega
    · show bv b + sI bv L ≤ _; rw [List.length_cons]; omega
/-- what a box has in common with another, as a whole number -/
theorem vol_split (a c d a2 c2 d2 a3 c3 d3 : Int) : a * (a2 + c2 + d2) * (a3 + c3 + d3) + d * (a2 + c2 + d2) * (a3 + c3 + d3) + c * a2 * (a3 + c3 + d3) + c * d2 * (a3 + c3 + d3) + c * c2 * a3 + c * c2 * d3 + c * c2 * c3 = (a + c + d) * (a2 + c2 + d2) * (a3 + c3 + d3) := by
  simp only [Int.add_mul, Int.mul_add]; omega
theorem sI_if {P : Prop} [Decidable P] (p : Bx) (v : Int) (h1 : P → bv p = v) (h2 : ¬ P → v = 0) : sI bv (if P then [p] else []) = v := by
  by_cases h : P
  · rw [if_pos h]; show bv p + 0 = v; rw [h1 h]; omega
  · rw [if_neg h, h2 h]; rfl
theorem rem_vol {b t : Bx} (hb : okB b) (ht : okB t) (hm : mt b t) : sI bv (rem b t) + voB b t = bv b := by
  obtain ⟨x, y, z, X, Y, Z⟩ := b
  obtain ⟨tx, ty, tz, tX, tY, tZ⟩ := t
  have hx := mx_toInt x tx; have hX := mn_toInt X tX; have hy := mx_toInt y ty; have hY := mn_toInt Y tY
  obtain ⟨⟨b1, b2, b3⟩, ⟨b4, b5, b6⟩, b7, b8, b9⟩ := hb
  obtain ⟨⟨c1, c2, c3⟩, ⟨c4, c5, c6⟩, c7, c8, c9⟩ := ht
  simp only [mt, Int32.le_iff_toInt_le] at hm
  obtain ⟨⟨m1, m2⟩, ⟨m3, m4⟩, m5, m6⟩ := hm
  dsimp only at b1 b2 b3 b4 b5 b6 b7 b8 b9 c1 c2 c3 c4 c5 c6 c7 c8 c9 m1 m2 m3 m4 m5 m6
  obtain ⟨a, ha⟩ : ∃ a : Int, a = max x.toInt tx.toInt - x.toInt := ⟨_, rfl⟩
  obtain ⟨d, hd⟩ : ∃ d : Int, d = X.toInt - min X.toInt tX.toInt := ⟨_, rfl⟩
  obtain ⟨e, he⟩ : ∃ e : Int, e = min X.toInt tX.toInt - max x.toInt tx.toInt := ⟨_, rfl⟩
  obtain ⟨a2, ha2⟩ : ∃ a : Int, a = max y.toInt ty.toInt - y.toInt := ⟨_, rfl⟩
  obtain ⟨d2, hd2⟩ : ∃ d : Int, d = Y.toInt - min Y.toInt tY.toInt := ⟨_, rfl⟩
  obtain ⟨e2, he2⟩ : ∃ e : Int, e = min Y.toInt tY.toInt - max y.toInt ty.toInt := ⟨_, rfl⟩
  obtain ⟨a3, ha3⟩ : ∃ a : Int, a = max z.toInt tz.toInt - z.toInt := ⟨_, rfl⟩
  obtain ⟨d3, hd3⟩ : ∃ d : Int, d = Z.toInt - min Z.toInt tZ.toInt := ⟨_, rfl⟩
  obtain ⟨e3, he3⟩ : ∃ e : Int, e = min Z.toInt tZ.toInt - max z.toInt tz.toInt := ⟨_, rfl⟩
  have r0 : sI bv (rq0 (x, y, z, X, Y, Z) (tx, ty, tz, tX, tY, tZ)) = a * (a2 + e2 + d2) * (a3 + e3 + d3) := by
    refine sI_if _ _ (fun h => ?_) (fun h => ?_)
    · rw [Int32.le_iff_toInt_le] at h; dsimp only at h
      show (tx.toInt - x.toInt) * (Y.toInt - y.toInt) * (Z.toInt - z.toInt) = _
      rw [show tx.toInt - x.toInt = a by omega, show Y.toInt - y.toInt = a2 + e2 + d2 by omega, show Z.toInt - z.toInt = a3 + e3 + d3 by omega]
    · have h := Classical.not_not.mp h; rw [Int32.le_iff_toInt_le] at h; dsimp only at h
      rw [show a = 0 by omega, Int.zero_mul, Int.zero_mul]
  have r1 : sI bv (rq1 (x, y, z, X, Y, Z) (tx, ty, tz, tX, tY, tZ)) = d * (a2 + e2 + d2) * (a3 + e3 + d3) := by
    refine sI_if _ _ (fun h => ?_) (fun h => ?_)
    · rw [Int32.le_iff_toInt_le] at h; dsimp only at h
      show (X.toInt - tX.toInt) * (Y.toInt - y.toInt) * (Z.toInt - z.toInt) = _
      rw [show X.toInt - tX.toInt = d by omega, show Y.toInt - y.toInt = a2 + e2 + d2 by omega, show Z.toInt - z.toInt = a3 + e3 + d3 by omega]
    · have h := Classical.not_not.mp h; rw [Int32.le_iff_toInt_le] at h; dsimp only at h
      rw [show d = 0 by omega, Int.zero_mul, Int.zero_mul]
  have r2 : sI bv (rq2 (x, y, z, X, Y, Z) (tx, ty, tz, tX, tY, tZ)) = e * a2 * (a3 + e3 + d3) := by
    refine sI_if _ _ (fun h => ?_) (fun h => ?_)
    · rw [Int32.le_iff_toInt_le] at h; dsimp only at h
      show ((mnI X tX).toInt - (mxI x tx).toInt) * (ty.toInt - y.toInt) * (Z.toInt - z.toInt) = _
      rw [show (mnI X tX).toInt - (mxI x tx).toInt = e by omega, show ty.toInt - y.toInt = a2 by omega, show Z.toInt - z.toInt = a3 + e3 + d3 by omega]
    · have h := Classical.not_not.mp h; rw [Int32.le_iff_toInt_le] at h; dsimp only at h
      rw [show a2 = 0 by omega, Int.mul_zero, Int.zero_mul]
  have r3 : sI bv (rq3 (x, y, z, X, Y, Z) (tx, ty, tz, tX, tY, tZ)) = e * d2 * (a3 + e3 + d3) := by
    refine sI_if _ _ (fun h => ?_) (fun h => ?_)
    · rw [Int32.le_iff_toInt_le] at h; dsimp only at h
      show ((mnI X tX).toInt - (mxI x tx).toInt) * (Y.toInt - tY.toInt) * (Z.toInt - z.toInt) = _
      rw [show (mnI X tX).toInt - (mxI x tx).toInt = e by omega, show Y.toInt - tY.toInt = d2 by omega, show Z.toInt - z.toInt = a3 + e3 + d3 by omega]
    · have h := Classical.not_not.mp h; rw [Int32.le_iff_toInt_le] at h; dsimp only at h
      rw [show d2 = 0 by omega, Int.mul_zero, Int.zero_mul]
  have r4 : sI bv (rq4 (x, y, z, X, Y, Z) (tx, ty, tz, tX, tY, tZ)) = e * e2 * a3 := by
    refine sI_if _ _ (fun h => ?_) (fun h => ?_)
    · rw [Int32.le_iff_toInt_le] at h; dsimp only at h
      show ((mnI X tX).toInt - (mxI x tx).toInt) * ((mnI Y tY).toInt - (mxI y ty).toInt) * (tz.toInt - z.toInt) = _
      rw [show (mnI X tX).toInt - (mxI x tx).toInt = e by omega, show (mnI Y tY).toInt - (mxI y ty).toInt = e2 by omega, show tz.toInt - z.toInt = a3 by omega]
    · have h := Classical.not_not.mp h; rw [Int32.le_iff_toInt_le] at h; dsimp only at h
      rw [show a3 = 0 by omega, Int.mul_zero]
  have r5 : sI bv (rq5 (x, y, z, X, Y, Z) (tx, ty, tz, tX, tY, tZ)) = e * e2 * d3 := by
    refine sI_if _ _ (fun h => ?_) (fun h => ?_)
    · rw [Int32.le_iff_toInt_le] at h; dsimp only at h
      show ((mnI X tX).toInt - (mxI x tx).toInt) * ((mnI Y tY).toInt - (mxI y ty).toInt) * (Z.toInt - tZ.toInt) = _
      rw [show (mnI X tX).toInt - (mxI x tx).toInt = e by omega, show (mnI Y tY).toInt - (mxI y ty).toInt = e2 by omega, show Z.toInt - tZ.toInt = d3 by omega]
    · have h := Classical.not_not.mp h; rw [Int32.le_iff_toInt_le] at h; dsimp only at h
      rw [show d3 = 0 by omega, Int.mul_zero]
  have hv : voB (x, y, z, X, Y, Z) (tx, ty, tz, tX, tY, tZ) = e * e2 * e3 := by
    show max 0 (min X.toInt tX.toInt - max x.toInt tx.toInt) * max 0 (min Y.toInt tY.toInt - max y.toInt ty.toInt) * max 0 (min Z.toInt tZ.toInt - max z.toInt tz.toInt) = _
    rw [show max 0 (min X.toInt tX.toInt - max x.toInt tx.toInt) = e by omega, show max 0 (min Y.toInt tY.toInt - max y.toInt ty.toInt) = e2 by omega, show max 0 (min Z.toInt tZ.toInt - max z.toInt tz.toInt) = e3 by omega]
  have hbv : bv (x, y, z, X, Y, Z) = (a + e + d) * (a2 + e2 + d2) * (a3 + e3 + d3) := by
    show (X.toInt - x.toInt) * (Y.toInt - y.toInt) * (Z.toInt - z.toInt) = _
    rw [show X.toInt - x.toInt = a + e + d by omega, show Y.toInt - y.toInt = a2 + e2 + d2 by omega, show Z.toInt - z.toInt = a3 + e3 + d3 by omega]
  unfold rem
  rw [sI_app, sI_app, sI_app, sI_app, sI_app, r0, r1, r2, r3, r4, r5, hv, hbv]
  exact vol_split a e d a2 e2 d2 a3 e3 d3
theorem cutL_vol {t : Bx} (ht : okB t) {L : List Bx} (hL : ∀ b ∈ L, okB b) : sI bv (cutL t L) + sI (fun b => voB b t) L = sI bv L ∧ 0 ≤ sI (fun b => voB b t) L ∧ (0 < sI (fun b => voB b t) L ↔ ∃ b ∈ L, mt b t) := by
  induction L with
  | nil => exact ⟨rfl, Int.le_refl _, ⟨fun h => absurd h (Int.lt_irrefl 0), fun ⟨b, hb, _⟩ => absurd hb List.not_mem_nil⟩⟩
  | cons b L ih =>
    obtain ⟨i1, i2, i3⟩ := ih (fun c hc => hL c (List.mem_cons_of_mem _ hc))
    have hb := hL b List.mem_cons_self
    have hc : cutL t (b :: L) = cutB t b ++ cutL t L := by simp [cutL]
    have h0 : 0 ≤ voB b t := by
      have b0 := ln_b hb.1 ht.1; have b1 := ln_b hb.2.1 ht.2.1; have b2 := ln_b hb.2.2 ht.2.2
      exact (mul_b (mul_b b0 b1) b2).1
    have e1 : sI bv (cutB t b) + voB b t = bv b := by
      unfold cutB
      by_cases h : mt b t
      · rw [if_pos h]; exact rem_vol hb ht h
      · rw [if_neg h]
        have : ¬ 0 < voB b t := fun q => h ((voB_pos hb ht).mp q)
        show bv b + 0 + voB b t = bv b; omega
    rw [hc, sI_app]
    refine ⟨?_, ?_, ?_⟩
    · show sI bv (cutB t b) + sI bv (cutL t L) + (voB b t + sI (fun b => voB b t) L) = bv b + sI bv L; omega
    · show 0 ≤ voB b t + sI (fun b => voB b t) L; omega
    · show 0 < voB b t + sI (fun b => voB b t) L ↔ _
      constructor
      · intro h
        by_cases q : 0 < voB b t
        · exact ⟨b, List.mem_cons_self, (voB_pos hb ht).mp q⟩
        · obtain ⟨c, hc, hm⟩ := i3.mp (by omega); exact ⟨c, List.mem_cons_of_mem _ hc, hm⟩
      · rintro ⟨c, hc, hm⟩
        rcases List.mem_cons.mp hc with rfl | hc
        · have := (voB_pos hb ht).mpr hm; omega
        · have := i3.mpr ⟨c, hc, hm⟩; omega
/-- the total falls just where a box is met -/
theorem tot_falls {t : Bx} (ht : okB t) {L : List Bx} (hL : ∀ b ∈ L, okB b) (h1 : L.length ≤ 1000) (h2 : (cutL t L).length ≤ 1000) : sL (fun b => vJ b b) (cutL t L) < sL (fun b => vJ b b) L ↔ ∃ b ∈ L, mt b t := by
  have hk := cutL_ok ht hL
  rw [sL_congr (w := vM) (fun b hb => vJ_vM (hk b hb)), sL_congr (w := vM) (L := L) (fun b hb => vJ_vM (hL b hb))]
  obtain ⟨a1, -, -⟩ := sL_toInt hk h2
  obtain ⟨a2, -, -⟩ := sL_toInt hL h1
  obtain ⟨c1, c2, c3⟩ := cutL_vol ht hL
  rw [Int64.lt_iff_toInt_lt, a1, a2, ← c3]
  omega
/-- touch: one area a pair -/
def tJ (b t : Bx) : Int64 :=
  if (mnI b.2.2.2.1 t.2.2.2.1 - mxI b.1 t.1) = 0 then (if (mnI b.2.2.2.2.1 t.2.2.2.2.1 - mxI b.2.1 t.2.1) = 0 then 0 else if (mnI b.2.2.2.2.2 t.2.2.2.2.2 - mxI b.2.2.1 t.2.2.1) = 0 then 0 else (1 * ln64 b.2.1 b.2.2.2.2.1 t.2.1 t.2.2.2.2.1) * ln64 b.2.2.1 b.2.2.2.2.2 t.2.2.1 t.2.2.2.2.2)
  else if (mnI b.2.2.2.2.1 t.2.2.2.2.1 - mxI b.2.1 t.2.1) = 0 then (if (mnI b.2.2.2.2.2 t.2.2.2.2.2 - mxI b.2.2.1 t.2.2.1) = 0 then 0 else (1 * ln64 b.1 b.2.2.2.1 t.1 t.2.2.2.1) * ln64 b.2.2.1 b.2.2.2.2.2 t.2.2.1 t.2.2.2.2.2)
  else if (mnI b.2.2.2.2.2 t.2.2.2.2.2 - mxI b.2.2.1 t.2.2.1) = 0 then (1 * ln64 b.1 b.2.2.2.1 t.1 t.2.2.2.1) * ln64 b.2.1 b.2.2.2.2.1 t.2.1 t.2.2.2.2.1 else 0
theorem arS_tJ (f h : Nat → Int32) (i j : Nat) : arS f i h j = tJ (gb f i) (gb h j) := rfl
def toL (A B : List Bx) : Int64 := sL (fun a => sL (fun b => tJ a b) B) A
theorem arB_L (fa fb : Nat → Int32) (na nb : Nat) : arB fa na fb nb = toL (bl fa 0 na) (bl fb 0 nb) := by
  unfold arB toL
  refine sm_sL na (fun i _ => ?_)
  refine sm_sL nb (fun j _ => ?_)
  rw [arS_tJ, Nat.zero_add, Nat.zero_add, Nat.mul_comm i, Nat.mul_comm j]
theorem face_iff {x X t T : Int32} (h1 : -4000 ≤ x.toInt ∧ x.toInt < X.toInt ∧ X.toInt ≤ 4000) (h2 : -4000 ≤ t.toInt ∧ t.toInt < T.toInt ∧ T.toInt ≤ 4000) : (X = t ∨ T = x) ↔ mnI X T - mxI x t = 0 := by
  rw [← Int32.toInt_inj, ← Int32.toInt_inj, ← Int32.toInt_inj, len_toInt h1 h2, show (0 : Int32).toInt = 0 from rfl]
  unfold lnI; omega
theorem ln_zero {x X t T : Int32} (h : mnI X T - mxI x t = 0) : ln64 x X t T = 0 := by
  unfold ln64; rw [h]; rfl
theorem tK_tJ {f : Nat → Int32} {c d : Nat} (h1 : okB (gb f c)) (h2 : okB (gb f d)) : sm (toK f c d) 3 = tJ (gb f c) (gb f d) := by
  show ((0 + toK f c d 0) + toK f c d 1) + toK f c d 2 = _
  have k0 : toK f c d 0 = if mnI (f (c + 3)) (f (d + 3)) - mxI (f c) (f d) = 0 then ln64 (f (c + 1)) (f (c + 4)) (f (d + 1)) (f (d + 4)) * ln64 (f (c + 2)) (f (c + 5)) (f (d + 2)) (f (d + 5)) else 0 := by
    rw [← spM_1, ← spM_2]; exact ite_congr (propext (face_iff h1.1 h2.1)) (fun _ => rfl) (fun _ => rfl)
  have k1 : toK f c d 1 = if mnI (f (c + 4)) (f (d + 4)) - mxI (f (c + 1)) (f (d + 1)) = 0 then ln64 (f (c + 2)) (f (c + 5)) (f (d + 2)) (f (d + 5)) * ln64 (f c) (f (c + 3)) (f d) (f (d + 3)) else 0 := by
    rw [← spM_2, ← spM_0]; exact ite_congr (propext (face_iff h1.2.1 h2.2.1)) (fun _ => rfl) (fun _ => rfl)
  have k2 : toK f c d 2 = if mnI (f (c + 5)) (f (d + 5)) - mxI (f (c + 2)) (f (d + 2)) = 0 then ln64 (f c) (f (c + 3)) (f d) (f (d + 3)) * ln64 (f (c + 1)) (f (c + 4)) (f (d + 1)) (f (d + 4)) else 0 := by
    rw [← spM_0, ← spM_1]; exact ite_congr (propext (face_iff h1.2.2 h2.2.2)) (fun _ => rfl) (fun _ => rfl)
  rw [k0, k1, k2]
  show _ = tJ (f c, f (c + 1), f (c + 2), f (c + 3), f (c + 4), f (c + 5)) (f d, f (d + 1), f (d + 2), f (d + 3), f (d + 4), f (d + 5))
  unfold tJ
  dsimp only
  by_cases q0 : mnI (f (c + 3)) (f (d + 3)) - mxI (f c) (f d) = 0
  · by_cases q1 : mnI (f (c + 4)) (f (d + 4)) - mxI (f (c + 1)) (f (d + 1)) = 0
    · rw [if_pos q0, if_pos q0, if_pos q1, if_pos q1, ln_zero q0, ln_zero q1]
      simp
    · by_cases q2 : mnI (f (c + 5)) (f (d + 5)) - mxI (f (c + 2)) (f (d + 2)) = 0
      · rw [if_pos q0, if_pos q0, if_neg q1, if_neg q1, if_pos q2, if_pos q2, ln_zero q0, ln_zero q2]
        simp
      · rw [if_pos q0, if_pos q0, if_neg q1, if_neg q1, if_neg q2, if_neg q2]
        simp
  · by_cases q1 : mnI (f (c + 4)) (f (d + 4)) - mxI (f (c + 1)) (f (d + 1)) = 0
    · by_cases q2 : mnI (f (c + 5)) (f (d + 5)) - mxI (f (c + 2)) (f (d + 2)) = 0
      · rw [if_neg q0, if_neg q0, if_pos q1, if_pos q1, if_pos q2, if_pos q2, ln_zero q1, ln_zero q2]
        simp
      · rw [if_neg q0, if_neg q0, if_pos q1, if_pos q1, if_neg q2, if_neg q2]
        simp [Int64.mul_comm]
    · by_cases q2 : mnI (f (c + 5)) (f (d + 5)) - mxI (f (c + 2)) (f (d + 2)) = 0
      · rw [if_neg q0, if_neg q0, if_neg q1, if_neg q1, if_pos q2, if_pos q2]
        simp
      · rw [if_neg q0, if_neg q0, if_neg q1, if_neg q1, if_neg q2, if_neg q2]
        simp
theorem toM_L {f : Nat → Int32} {a na b nb : Nat} (hA : ∀ x ∈ bl f (144 * a) na, okB x) (hB : ∀ x ∈ bl f (144 * b) nb, okB x) : toM f a na b nb = toL (bl f (144 * a) na) (bl f (144 * b) nb) := by
  unfold toM toL
  refine sm_sL na (fun i hi => ?_)
  refine sm_sL nb (fun j hj => ?_)
  exact tK_tJ (hA _ (List.mem_map.mpr ⟨i, List.mem_range.mpr hi, rfl⟩)) (hB _ (List.mem_map.mpr ⟨j, List.mem_range.mpr hj, rfl⟩))
