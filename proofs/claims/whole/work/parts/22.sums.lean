/-! Sums over lists of boxes; what a cut does to boxes and volumes. -/
theorem rq_ok {b t p : Bx} (hb : okB b) (ht : okB t) (hm : mt b t) (hp : p ∈ rem b t) : okB p := by
  obtain ⟨x, y, z, X, Y, Z⟩ := b
  obtain ⟨tx, ty, tz, tX, tY, tZ⟩ := t
  have hx := mx_toInt x tx; have hX := mn_toInt X tX; have hy := mx_toInt y ty; have hY := mn_toInt Y tY
  obtain ⟨⟨b1, b2, b3⟩, ⟨b4, b5, b6⟩, b7, b8, b9⟩ := hb
  obtain ⟨⟨c1, c2, c3⟩, ⟨c4, c5, c6⟩, c7, c8, c9⟩ := ht
  simp only [mt, Int32.le_iff_toInt_le] at hm
  obtain ⟨⟨m1, m2⟩, ⟨m3, m4⟩, m5, m6⟩ := hm
  dsimp only at b1 b2 b3 b4 b5 b6 b7 b8 b9 c1 c2 c3 c4 c5 c6 c7 c8 c9 m1 m2 m3 m4 m5 m6
  simp only [rem, rq0, rq1, rq2, rq3, rq4, rq5, List.mem_append] at hp
  rcases hp with ((((hp | hp) | hp) | hp) | hp) | hp
  all_goals
    split at hp
    · rename_i h
      rw [Int32.le_iff_toInt_le] at h
      rw [List.mem_singleton.mp hp]
      unfold okB
      dsimp only at h ⊢
      omega
    · exact absurd hp List.not_mem_nil
theorem cutL_ok {t : Bx} {L : List Bx} (ht : okB t) (hL : ∀ b ∈ L, okB b) : ∀ b ∈ cutL t L, okB b := by
  intro p hp
  obtain ⟨b, hb, hp⟩ := List.mem_flatMap.mp hp
  unfold cutB at hp
  split at hp
  · rename_i h; exact rq_ok (hL b hb) ht h hp
  · rw [List.mem_singleton.mp hp]; exact hL b hb
/-- a sum of longs over a list -/
def sL (v : Bx → Int64) : List Bx → Int64
  | [] => 0
  | b :: L => v b + sL v L
theorem sL_app (v : Bx → Int64) (L M : List Bx) : sL v (L ++ M) = sL v L + sL v M := by
  induction L with
  | nil => show sL v M = 0 + sL v M; rw [Int64.zero_add]
  | cons b L ih => show v b + sL v (L ++ M) = (v b + sL v L) + sL v M; rw [ih, Int64.add_assoc]
theorem sL_congr {v w : Bx → Int64} {L : List Bx} (h : ∀ b ∈ L, v b = w b) : sL v L = sL w L := by
  induction L with
  | nil => rfl
  | cons b L ih => show v b + sL v L = w b + sL w L; rw [h b List.mem_cons_self, ih (fun c hc => h c (List.mem_cons_of_mem _ hc))]
theorem sm_sL {F : Nat → Int64} {v : Bx → Int64} {f : Nat → Int32} {o : Nat} (n : Nat) (h : ∀ i, i < n → F i = v (gb f (o + 6 * i))) : sm F n = sL v (bl f o n) := by
  induction n with
  | zero => rfl
  | succ n ih =>
    rw [bl_s, sL_app]
    show sm F n + F n = _
    rw [ih (fun i hi => h i (by omega)), h n (by omega)]
    show _ = _ + (_ + 0)
    rw [Int64.add_zero]
/-- volumes, areas of pairs, over boxes: as the class and as the reference count them -/
def ln64 (x X t T : Int32) : Int64 := (mxI (nI 0) (mnI X T - mxI x t)).toInt64
def vJ (b t : Bx) : Int64 := ((1 * ln64 b.1 b.2.2.2.1 t.1 t.2.2.2.1) * ln64 b.2.1 b.2.2.2.2.1 t.2.1 t.2.2.2.2.1) * ln64 b.2.2.1 b.2.2.2.2.2 t.2.2.1 t.2.2.2.2.2
theorem volS_vJ (f h : Nat → Int32) (i j : Nat) : volS f i h j = vJ (gb f i) (gb h j) := rfl
theorem sp_ln (x : Int32) : (if x < 0 then (0 : Int64) else x.toInt64) = (mxI (nI 0) x).toInt64 := by
  by_cases h : x < 0
  · rw [if_pos h, show mxI (nI 0) x = nI 0 from if_neg (fun q => by
      have h1 := Int32.lt_iff_toInt_lt.mp h; have h2 := Int32.lt_iff_toInt_lt.mp q
      have e : (nI 0).toInt = 0 := rfl
      have e2 : (0 : Int32).toInt = 0 := rfl
      omega)]
    rfl
  · rw [if_neg h]
    by_cases q : nI 0 < x
    · rw [show mxI (nI 0) x = x from if_pos q]
    · have e : x = nI 0 := Int32.toInt_inj.mp (by
        have h1 : ¬ x.toInt < (0 : Int32).toInt := fun w => h (Int32.lt_iff_toInt_lt.mpr w)
        have h2 : ¬ (nI 0).toInt < x.toInt := fun w => q (Int32.lt_iff_toInt_lt.mpr w)
        have e : (nI 0).toInt = 0 := rfl
        have e2 : (0 : Int32).toInt = 0 := rfl
        omega)
      rw [e]; rfl
theorem spM_0 (f : Nat → Int32) (c d : Nat) : spM f c d 0 = ln64 (f c) (f (c + 3)) (f d) (f (d + 3)) := sp_ln _
theorem spM_1 (f : Nat → Int32) (c d : Nat) : spM f c d 1 = ln64 (f (c + 1)) (f (c + 4)) (f (d + 1)) (f (d + 4)) := sp_ln _
theorem spM_2 (f : Nat → Int32) (c d : Nat) : spM f c d 2 = ln64 (f (c + 2)) (f (c + 5)) (f (d + 2)) (f (d + 5)) := sp_ln _
/-- overlap: both sides are one sum over both lists -/
def ovL (A B : List Bx) : Int64 := sL (fun a => sL (fun b => vJ a b) B) A
theorem volB_L (fa fb : Nat → Int32) (na nb : Nat) : volB fa na fb nb = ovL (bl fa 0 na) (bl fb 0 nb) := by
  unfold volB ovL
  refine sm_sL na (fun i _ => ?_)
  refine sm_sL nb (fun j _ => ?_)
  rw [volS_vJ, Nat.zero_add, Nat.zero_add, Nat.mul_comm i, Nat.mul_comm j]
theorem ovM_L (f : Nat → Int32) (a na b nb : Nat) : ovM f a na b nb = ovL (bl f (144 * a) na) (bl f (144 * b) nb) := by
  unfold ovM ovL
  refine sm_sL na (fun i _ => ?_)
  refine sm_sL nb (fun j _ => ?_)
  rw [spM_0, spM_1, spM_2]
  show _ = vJ (gb f (144 * a + 6 * i)) (gb f (144 * b + 6 * j))
  unfold vJ
  rw [Int64.one_mul]; rfl
