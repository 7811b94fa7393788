/-! The reference's drafts as two lists; its joints in their own order. -/
/-- the two drafts of the reference hold two lists -/
def dR (fd dm : Nat → Int32) (LA LB : List Bx) : Prop := dm 0 = nI LA.length ∧ dm 1 = nI LB.length ∧ LA.length ≤ 24 ∧ LB.length ≤ 24 ∧ bl fd 0 LA.length = LA ∧ bl fd 144 LB.length = LB
theorem lo_R0 {fd dm bx md : Nat → Int32} {LA LB : List Bx} {u : Nat × Nat × (Nat → Int32)} (hR : dR fd dm LA LB) (hu : u = pA fd 0 bx md LA.length) : u.1 = (cutL (gb bx 0) LA).length ∧ (u.1 ≤ 24 → dR (va_cpy u.2.2 fd 0 (144 * 0) (6 * u.1)) (upd dm 0 (nI u.1)) (cutL (gb bx 0) LA) LB) := by
  obtain ⟨r1, r2, r3, r4, r5, r6⟩ := hR
  have h := (pA_cut (fd := fd) (bx := bx) (md := md) (sd := 0) LA.length).1
  rw [← hu, show bl fd (144 * 0) LA.length = LA from r5] at h
  have hl : u.1 = (cutL (gb bx 0) LA).length := by rw [← h, bl_len]
  refine ⟨hl, fun hn => ⟨by rw [pk_us, hl], by rw [pk_un (by decide)]; exact r2, by rw [← hl]; exact hn, r4, ?_, ?_⟩⟩
  · rw [← hl]; exact (bl_cpy (f := u.2.2) (h := fd) (sp := 0) (dp := 144 * 0) (n := u.1)).trans h
  · rw [bl_cpy_out (by omega)]; exact r6
theorem lo_R1 {fd dm bx md : Nat → Int32} {LA LB : List Bx} {u : Nat × Nat × (Nat → Int32)} (hR : dR fd dm LA LB) (hu : u = pA fd 1 bx md LB.length) : u.1 = (cutL (gb bx 0) LB).length ∧ (u.1 ≤ 24 → dR (va_cpy u.2.2 fd 0 (144 * 1) (6 * u.1)) (upd dm 1 (nI u.1)) LA (cutL (gb bx 0) LB)) := by
  obtain ⟨r1, r2, r3, r4, r5, r6⟩ := hR
  have h := (pA_cut (fd := fd) (bx := bx) (md := md) (sd := 1) LB.length).1
  rw [← hu, show bl fd (144 * 1) LB.length = LB from r6] at h
  have hl : u.1 = (cutL (gb bx 0) LB).length := by rw [← h, bl_len]
  refine ⟨hl, fun hn => ⟨by rw [pk_un (by decide)]; exact r1, by rw [pk_us, hl], r3, by rw [← hl]; exact hn, ?_, ?_⟩⟩
  · rw [bl_cpy_out (by omega)]; exact r5
  · rw [← hl]; exact (bl_cpy (f := u.2.2) (h := fd) (sp := 0) (dp := 144 * 1) (n := u.1)).trans h
theorem lsB_lb {cm t : Nat → Int32} {k : Nat} (hk : k < 3) {fr tt mo : Int32} {m0 m1 : Nat} (h0 : fr = cm k + nI m0) (h1 : tt = cm k + nI m1) : gb (lsB cm t k fr tt mo) 0 = lb cm k mo m0 m1 := by
  rw [lsB_gb cm t hk, h0, h1]; rfl
theorem hi_of {cm : Nat → Int32} {k S : Nat} (h : cm (k + 3) - cm k = nI S) : cm (3 + k) = cm k + nI S := by
  rw [← h, Nat.add_comm 3 k, Int32.add_comm, Int32.sub_add_cancel]
theorem hi_sub {cm : Nat → Int32} {k S t : Nat} (h : cm (k + 3) - cm k = nI S) (ht : t ≤ S) : cm (3 + k) - nI t = cm k + nI (S - t) := by
  rw [hi_of h, ← pk_sub ht, Int32.sub_eq_add_neg, Int32.sub_eq_add_neg, Int32.add_assoc]
theorem lo_0 (x : Int32) : x = x + nI 0 := (Int32.add_zero x).symm
theorem sl_iff {S w j : Nat} (hw : 1 ≤ w) : j < (S + w - 1) / w ↔ j * w < S := by
  rw [← Nat.succ_le_iff, Nat.le_div_iff_mul_le (by omega), Nat.succ_mul]; omega
theorem fing_mk {S w j : Nat} (hw : 1 ≤ w) (hj : j * w < S) : mkN 2 S w j = j * w ∧ mkN 2 S w (j + 1) = min S ((j + 1) * w) := by
  have h1 := (sl_iff hw).mpr hj
  have e : spN 2 S w = (S + w - 1) / w := rfl
  constructor
  · unfold mkN; rw [if_neg (by omega)]; rfl
  · unfold mkN
    by_cases q : j + 1 = spN 2 S w
    · rw [if_pos q]
      have h2 : ¬ (j + 1) * w < S := fun h => by have := (sl_iff hw).mpr h; omega
      omega
    · rw [if_neg q]
      have h2 := (sl_iff (S := S) (j := j + 1) hw).mp (by omega)
      show (j + 1) * w = _; omega
theorem fing_end {cm : Nat → Int32} {k S w j : Nat} (h : cmOk cm k S) (hw : w ≤ 1000) (hj : j * w < S) : mnI (cm (3 + k)) (cm k + nI (j * w) + nI w) = cm k + nI (min S ((j + 1) * w)) := by
  obtain ⟨⟨⟨o1, o2, o3⟩, ⟨o4, o5, o6⟩, o7, o8, o9⟩, hk, hS, hS1, hS2⟩ := h
  have g0 : (gb cm 0) = (cm 0, cm 1, cm 2, cm 3, cm 4, cm 5) := rfl
  rw [g0] at o1 o2 o3 o4 o5 o6 o7 o8 o9
  dsimp only at o1 o2 o3 o4 o5 o6 o7 o8 o9
  have hb : -4000 ≤ (cm k).toInt ∧ (cm k).toInt ≤ 4000 := by
    rcases (show k = 0 ∨ k = 1 ∨ k = 2 by omega) with rfl | rfl | rfl <;> omega
  rw [hi_of hS]
  apply Int32.toInt_inj.mp
  have hs : (j + 1) * w = j * w + w := Nat.succ_mul j w
  have e1 := nI_Int (n := j * w) (by omega); have e2 := nI_Int (n := w) (by omega); have e3 := nI_Int (n := S) (by omega); have e4 := nI_Int (n := min S ((j + 1) * w)) (by omega)
  have s1 : (cm k + nI (j * w)).toInt = (cm k).toInt + ((j * w : Nat) : Int) := by rw [add_toInt (by omega) (by omega), e1]
  have s2 : (cm k + nI (j * w) + nI w).toInt = (cm k).toInt + ((j * w : Nat) : Int) + w := by rw [add_toInt (by omega) (by omega), s1, e2]
  have s3 : (cm k + nI S).toInt = (cm k).toInt + S := by rw [add_toInt (by omega) (by omega), e3]
  have s4 : (cm k + nI (min S ((j + 1) * w))).toInt = (cm k).toInt + ((min S ((j + 1) * w) : Nat) : Int) := by rw [add_toInt (by omega) (by omega), e4]
  rw [mn_toInt, s2, s3, s4]; omega
/-- three spans, the middle one first: of b's, a's, b's -/
theorem seq3_f {cm : Nat → Int32} {k : Nat} {cl : Int32} {ms : Nat → Nat} {LA LB : List Bx} : seq2 (spl cm k cl false ms 3) (LA, LB) =
    if (cutL (lb cm k cl (ms 1) (ms 2)) LA).length ≤ 24 then (if (cutL (lb cm k (nI 0) (ms 0) (ms 1)) LB).length ≤ 24 then (if (cutL (lb cm k (nI 0) (ms 2) (ms 3)) (cutL (lb cm k (nI 0) (ms 0) (ms 1)) LB)).length ≤ 24 then some (cutL (lb cm k cl (ms 1) (ms 2)) LA, cutL (lb cm k (nI 0) (ms 2) (ms 3)) (cutL (lb cm k (nI 0) (ms 0) (ms 1)) LB)) else none) else none) else none := by
  have h1 := stp_f (cm := cm) (k := k) (cl := cl) (s0 := false) (ms := ms) (i := 0) (q := (LA, LB)) rfl rfl
  by_cases q1 : (cutL (lb cm k (nI 0) (ms 0) (ms 1)) LB).length ≤ 24
  · rw [if_pos q1] at h1
    have h2 := stp_t h1 rfl
    by_cases q2 : (cutL (lb cm k cl (ms 1) (ms 2)) LA).length ≤ 24
    · rw [if_pos q2] at h2
      have h3 := stp_f h2 rfl
      rw [if_pos q2, if_pos q1]; exact h3
    · rw [if_neg q2] at h2
      rw [if_neg q2]; exact spl_none h2 3 (by decide)
  · rw [if_neg q1] at h1
    rw [spl_none h1 3 (by decide), if_neg q1, ite_self]
theorem seq3_t {cm : Nat → Int32} {k : Nat} {cl : Int32} {ms : Nat → Nat} {LA LB : List Bx} : seq2 (spl cm k cl true ms 3) (LA, LB) =
    if (cutL (lb cm k (nI 0) (ms 1) (ms 2)) LB).length ≤ 24 then (if (cutL (lb cm k cl (ms 0) (ms 1)) LA).length ≤ 24 then (if (cutL (lb cm k cl (ms 2) (ms 3)) (cutL (lb cm k cl (ms 0) (ms 1)) LA)).length ≤ 24 then some (cutL (lb cm k cl (ms 2) (ms 3)) (cutL (lb cm k cl (ms 0) (ms 1)) LA), cutL (lb cm k (nI 0) (ms 1) (ms 2)) LB) else none) else none) else none := by
  have h1 := stp_t (cm := cm) (k := k) (cl := cl) (s0 := true) (ms := ms) (i := 0) (q := (LA, LB)) rfl rfl
  by_cases q1 : (cutL (lb cm k cl (ms 0) (ms 1)) LA).length ≤ 24
  · rw [if_pos q1] at h1
    have h2 := stp_f h1 rfl
    by_cases q2 : (cutL (lb cm k (nI 0) (ms 1) (ms 2)) LB).length ≤ 24
    · rw [if_pos q2] at h2
      have h3 := stp_t h2 rfl
      rw [if_pos q2, if_pos q1]; exact h3
    · rw [if_neg q2] at h2
      rw [if_neg q2]; exact spl_none h2 3 (by decide)
  · rw [if_neg q1] at h1
    rw [spl_none h1 3 (by decide), if_neg q1, ite_self]
