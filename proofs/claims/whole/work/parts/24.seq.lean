/-! Sequences of cuts out of two lists. -/
/-- the common box with another span along the axis k -/
def slb (c : Bx) (k : Nat) (lo hi : Int32) : Bx := if k = 0 then (lo, c.2.1, c.2.2.1, hi, c.2.2.2.2.1, c.2.2.2.2.2) else if k = 1 then (c.1, lo, c.2.2.1, c.2.2.2.1, hi, c.2.2.2.2.2) else (c.1, c.2.1, lo, c.2.2.2.1, c.2.2.2.2.1, hi)
/-- what is lost from m0 on up to m1, longer by mo at both ends -/
def lb (cm : Nat → Int32) (k : Nat) (mo : Int32) (m0 m1 : Nat) : Bx := slb (gb cm 0) k (mxI (cm k) (cm k + nI m0 - mo)) (mnI (cm (k + 3)) (cm k + nI m1 + mo))
theorem upd2_gb (cm t : Nat → Int32) {k : Nat} (hk : k < 3) (a b : Int32) : gb (upd (upd (va_cpy cm t 0 0 6) k a) (k + 3) b) 0 = slb (gb cm 0) k a b := by
  have e : ∀ j, j < 6 → va_cpy cm t 0 0 6 j = cm j := fun j hj => by unfold va_cpy; rw [if_pos (by omega), show 0 + (j - 0) = j by omega]
  have e0 := e 0 (by omega); have e1 := e 1 (by omega); have e2 := e 2 (by omega); have e3 := e 3 (by omega); have e4 := e 4 (by omega); have e5 := e 5 (by omega)
  rcases (show k = 0 ∨ k = 1 ∨ k = 2 by omega) with rfl | rfl | rfl <;> simp [gb, upd, slb, e0, e1, e2, e3, e4, e5]
theorem spT_gb (cm t : Nat → Int32) {k : Nat} (hk : k < 3) (m0 m1 : Nat) (mo : Int32) : gb (spT cm t k (nI m0) (nI m1) mo) 0 = lb cm k mo m0 m1 := upd2_gb cm t hk _ _
theorem lsB_gb (cm t : Nat → Int32) {k : Nat} (hk : k < 3) (fr tt mo : Int32) : gb (lsB cm t k fr tt mo) 0 = slb (gb cm 0) k (mxI (cm k) (fr - mo)) (mnI (cm (k + 3)) (tt + mo)) := by
  unfold lsB; rw [Nat.add_comm 3 k]; exact upd2_gb cm t hk _ _
abbrev okL (L : List Bx) : Prop := ∀ b ∈ L, okB b
/-- a row of boxes holds a list -/
def sR (f : Nat → Int32) (n : Nat) (L : List Bx) : Prop := n = L.length ∧ n ≤ 24 ∧ bl f 0 n = L
def stp (x : Bool × Bx) (q : List Bx × List Bx) : Option (List Bx × List Bx) :=
  if x.1 = true then (if (cutL x.2 q.1).length ≤ 24 then some (cutL x.2 q.1, q.2) else none) else (if (cutL x.2 q.2).length ≤ 24 then some (q.1, cutL x.2 q.2) else none)
def seq2 : List (Bool × Bx) → List Bx × List Bx → Option (List Bx × List Bx)
  | [], q => some q
  | x :: l, q => (stp x q).bind (seq2 l)
theorem seq2_snoc (l : List (Bool × Bx)) (x : Bool × Bx) (q : List Bx × List Bx) : seq2 (l ++ [x]) q = (seq2 l q).bind (stp x) := by
  induction l generalizing q with
  | nil => show (stp x q).bind some = stp x q; cases stp x q <;> rfl
  | cons y l ih =>
    show (stp y q).bind (seq2 (l ++ [x])) = ((stp y q).bind (seq2 l)).bind (stp x)
    cases h : stp y q with
    | none => rfl
    | some q2 => exact ih q2
/-- whose turn it is at the i-th span -/
def tb (s0 : Bool) (i : Nat) : Bool := if i % 2 = 0 then s0 else !s0
theorem tb_s (s0 : Bool) (i : Nat) : tb s0 (i + 1) = !(tb s0 i) := by
  unfold tb
  rcases Nat.mod_two_eq_zero_or_one i with h | h
  · rw [if_neg (by omega), if_pos h]
  · rw [if_pos (by omega), if_neg (by omega), Bool.not_not]
/-- the i-th span: whose, and the box that is lost -/
def spF (cm : Nat → Int32) (k : Nat) (cl : Int32) (s0 : Bool) (ms : Nat → Nat) (i : Nat) : Bool × Bx := (tb s0 i, lb cm k (if tb s0 i = true then cl else nI 0) (ms i) (ms (i + 1)))
def spl (cm : Nat → Int32) (k : Nat) (cl : Int32) (s0 : Bool) (ms : Nat → Nat) (n : Nat) : List (Bool × Bx) := (List.range n).map (spF cm k cl s0 ms)
theorem spl_s (cm : Nat → Int32) (k : Nat) (cl : Int32) (s0 : Bool) (ms : Nat → Nat) (n : Nat) : spl cm k cl s0 ms (n + 1) = spl cm k cl s0 ms n ++ [spF cm k cl s0 ms n] := by
  simp [spl, List.range_succ]
theorem spl_none {cm : Nat → Int32} {k : Nat} {cl : Int32} {s0 : Bool} {ms : Nat → Nat} {i : Nat} {q : List Bx × List Bx} (h : seq2 (spl cm k cl s0 ms i) q = none) : ∀ n, i ≤ n → seq2 (spl cm k cl s0 ms n) q = none := by
  intro n hn
  induction n with
  | zero => rw [show i = 0 by omega] at h; exact h
  | succ n ih =>
    by_cases e : i = n + 1
    · rw [e] at h; exact h
    · rw [spl_s, seq2_snoc, ih (by omega)]; rfl
/-- a common box that is fit for spans: okB, and as long as S along k -/
def cmOk (cm : Nat → Int32) (k S : Nat) : Prop := okB (gb cm 0) ∧ k < 3 ∧ cm (k + 3) - cm k = nI S ∧ 1 ≤ S ∧ S ≤ 8000
theorem nI_Int {n : Nat} (h : n < 2 ^ 31) : (nI n).toInt = (n : Int) := nI_toInt h
theorem lb_ok {cm : Nat → Int32} {k S : Nat} (h : cmOk cm k S) {mo : Int32} (hm : 0 ≤ mo.toInt ∧ mo.toInt ≤ 100) {m0 m1 : Nat} (h1 : m0 < m1) (h2 : m1 ≤ S) : okB (lb cm k mo m0 m1) := by
  obtain ⟨⟨⟨o1, o2, o3⟩, ⟨o4, o5, o6⟩, o7, o8, o9⟩, hk, hS, hS1, hS2⟩ := h
  have e0 := nI_Int (n := m0) (by omega); have e1 := nI_Int (n := m1) (by omega); have eS := nI_Int (n := S) (by omega)
  have g0 : (gb cm 0) = (cm 0, cm 1, cm 2, cm 3, cm 4, cm 5) := rfl
  rw [g0] at o1 o2 o3 o4 o5 o6 o7 o8 o9
  dsimp only at o1 o2 o3 o4 o5 o6 o7 o8 o9
  have key : ∀ (x X : Int32), -4000 ≤ x.toInt → x.toInt < X.toInt → X.toInt ≤ 4000 → X - x = nI S → -4000 ≤ (mxI x (x + nI m0 - mo)).toInt ∧ (mxI x (x + nI m0 - mo)).toInt < (mnI X (x + nI m1 + mo)).toInt ∧ (mnI X (x + nI m1 + mo)).toInt ≤ 4000 := by
    intro x X a1 a2 a3 a4
    have d : X.toInt - x.toInt = S := by rw [← eS, ← a4, sub_toInt (by omega) (by omega)]
    have s1 : (x + nI m0).toInt = x.toInt + m0 := by rw [add_toInt (by omega) (by omega), e0]
    have s2 : (x + nI m1).toInt = x.toInt + m1 := by rw [add_toInt (by omega) (by omega), e1]
    have s3 : (x + nI m0 - mo).toInt = x.toInt + m0 - mo.toInt := by rw [sub_toInt (by omega) (by omega), s1]
    have s4 : (x + nI m1 + mo).toInt = x.toInt + m1 + mo.toInt := by rw [add_toInt (by omega) (by omega), s2]
    rw [mx_toInt, mn_toInt, s3, s4]; omega
  rcases (show k = 0 ∨ k = 1 ∨ k = 2 by omega) with rfl | rfl | rfl
  · exact ⟨key (cm 0) (cm 3) o1 o2 o3 hS, ⟨o4, o5, o6⟩, o7, o8, o9⟩
  · exact ⟨⟨o1, o2, o3⟩, key (cm 1) (cm 4) o4 o5 o6 hS, o7, o8, o9⟩
  · exact ⟨⟨o1, o2, o3⟩, ⟨o4, o5, o6⟩, key (cm 2) (cm 5) o7 o8 o9 hS⟩
/-- a carve on a row that holds a list -/
theorem carve_R {f t r0 b0 : Nat → Int32} {n : Nat} {L : List Bx} (hR : sR f n L) (hL : okL L) (ht : okB (gb t 0)) : (cv f t r0 b0 n).2.1 = (cutL (gb t 0) L).length ∧ ((cv f t r0 b0 n).2.1 ≤ 24 → sR (va_cpy (cv f t r0 b0 n).2.2 f 0 0 ((cv f t r0 b0 n).2.1 * 6)) (cv f t r0 b0 n).2.1 (cutL (gb t 0) L)) := by
  have h := cv_cut (f := f) (r0 := r0) (b0 := b0) ht n (by rw [hR.2.2]; exact hL)
  rw [hR.2.2] at h
  refine ⟨h.1, fun hn => ⟨h.1, hn, ?_⟩⟩
  rw [Nat.mul_comm, bl_cpy]; exact h.2 hn
theorem stp_t {cm : Nat → Int32} {k : Nat} {cl : Int32} {s0 : Bool} {ms : Nat → Nat} {i : Nat} {q : List Bx × List Bx} {LA LB : List Bx} (e : seq2 (spl cm k cl s0 ms i) q = some (LA, LB)) (hb : tb s0 i = true) : seq2 (spl cm k cl s0 ms (i + 1)) q = if (cutL (lb cm k cl (ms i) (ms (i + 1))) LA).length ≤ 24 then some (cutL (lb cm k cl (ms i) (ms (i + 1))) LA, LB) else none := by
  rw [spl_s, seq2_snoc, e]
  show stp (spF cm k cl s0 ms i) (LA, LB) = _
  unfold stp spF
  rw [hb]; rfl
theorem stp_f {cm : Nat → Int32} {k : Nat} {cl : Int32} {s0 : Bool} {ms : Nat → Nat} {i : Nat} {q : List Bx × List Bx} {LA LB : List Bx} (e : seq2 (spl cm k cl s0 ms i) q = some (LA, LB)) (hb : tb s0 i = false) : seq2 (spl cm k cl s0 ms (i + 1)) q = if (cutL (lb cm k (nI 0) (ms i) (ms (i + 1))) LB).length ≤ 24 then some (LA, cutL (lb cm k (nI 0) (ms i) (ms (i + 1))) LB) else none := by
  rw [spl_s, seq2_snoc, e]
  show stp (spF cm k cl s0 ms i) (LA, LB) = _
  unfold stp spF
  rw [hb]; rfl
