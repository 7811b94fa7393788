/-! Boxes and lists of boxes: what both sides are tied to. -/
/-- x, y, z, X, Y, Z -/
abbrev Bx : Type := Int32 × Int32 × Int32 × Int32 × Int32 × Int32
def gb (f : Nat → Int32) (o : Nat) : Bx := (f o, f (o + 1), f (o + 2), f (o + 3), f (o + 4), f (o + 5))
/-- the n boxes of a row from o on -/
def bl (f : Nat → Int32) (o n : Nat) : List Bx := (List.range n).map (fun i => gb f (o + 6 * i))
theorem bl_len (f : Nat → Int32) (o n : Nat) : (bl f o n).length = n := by simp [bl]
theorem bl_0 (f : Nat → Int32) (o : Nat) : bl f o 0 = [] := rfl
theorem bl_s (f : Nat → Int32) (o n : Nat) : bl f o (n + 1) = bl f o n ++ [gb f (o + 6 * n)] := by
  simp [bl, List.range_succ]
theorem gb_congr {f h : Nat → Int32} {o p : Nat} (e : ∀ j, j < 6 → f (o + j) = h (p + j)) : gb f o = gb h p := by
  have e0 := e 0 (by omega); have e1 := e 1 (by omega); have e2 := e 2 (by omega); have e3 := e 3 (by omega); have e4 := e 4 (by omega); have e5 := e 5 (by omega)
  rw [Nat.add_zero, Nat.add_zero] at e0
  unfold gb; rw [e0, e1, e2, e3, e4, e5]
theorem bl_congr {f h : Nat → Int32} {o p n : Nat} (e : ∀ j, j < 6 * n → f (o + j) = h (p + j)) : bl f o n = bl h p n := by
  unfold bl
  apply List.map_congr_left
  intro i hi
  rw [List.mem_range] at hi
  apply gb_congr
  intro j hj
  rw [Nat.add_assoc, Nat.add_assoc]
  exact e (6 * i + j) (by omega)
/-- a box more at the end of a row -/
theorem bl_app {f h : Nat → Int32} {n : Nat} {L : List Bx} {b : Bx} (e : bl f 0 n = L) (hk : ∀ j, j < 6 * n → h j = f j) (hb : gb h (6 * n) = b) : bl h 0 (n + 1) = L ++ [b] := by
  rw [bl_s, Nat.zero_add, hb, ← e]
  congr 1
  apply bl_congr
  intro j hj
  rw [Nat.zero_add]; exact hk j hj
theorem bl_cpy {f h : Nat → Int32} {sp dp n : Nat} : bl (va_cpy f h sp dp (6 * n)) dp n = bl f sp n := bl_congr fun j hj => by
  unfold va_cpy; rw [if_pos (by omega), show dp + j - dp = j by omega]
theorem bl_cpy_out {f h : Nat → Int32} {sp dp k o n : Nat} (ho : o + 6 * n ≤ dp ∨ dp + k ≤ o) : bl (va_cpy f h sp dp k) o n = bl h o n := bl_congr fun j hj => by
  unfold va_cpy; rw [if_neg (by omega)]
/-- a box meets the tool's -/
abbrev mt (b t : Bx) : Prop := (¬ t.2.2.2.1 ≤ b.1 ∧ ¬ b.2.2.2.1 ≤ t.1) ∧ (¬ t.2.2.2.2.1 ≤ b.2.1 ∧ ¬ b.2.2.2.2.1 ≤ t.2.1) ∧ (¬ t.2.2.2.2.2 ≤ b.2.2.1 ∧ ¬ b.2.2.2.2.2 ≤ t.2.2.1)
def rq0 (b t : Bx) : List Bx := if ¬ t.1 ≤ b.1 then [(b.1, b.2.1, b.2.2.1, t.1, b.2.2.2.2.1, b.2.2.2.2.2)] else []
def rq1 (b t : Bx) : List Bx := if ¬ b.2.2.2.1 ≤ t.2.2.2.1 then [(t.2.2.2.1, b.2.1, b.2.2.1, b.2.2.2.1, b.2.2.2.2.1, b.2.2.2.2.2)] else []
def rq2 (b t : Bx) : List Bx := if ¬ t.2.1 ≤ b.2.1 then [(mxI b.1 t.1, b.2.1, b.2.2.1, mnI b.2.2.2.1 t.2.2.2.1, t.2.1, b.2.2.2.2.2)] else []
def rq3 (b t : Bx) : List Bx := if ¬ b.2.2.2.2.1 ≤ t.2.2.2.2.1 then [(mxI b.1 t.1, t.2.2.2.2.1, b.2.2.1, mnI b.2.2.2.1 t.2.2.2.1, b.2.2.2.2.1, b.2.2.2.2.2)] else []
def rq4 (b t : Bx) : List Bx := if ¬ t.2.2.1 ≤ b.2.2.1 then [(mxI b.1 t.1, mxI b.2.1 t.2.1, b.2.2.1, mnI b.2.2.2.1 t.2.2.2.1, mnI b.2.2.2.2.1 t.2.2.2.2.1, t.2.2.1)] else []
def rq5 (b t : Bx) : List Bx := if ¬ b.2.2.2.2.2 ≤ t.2.2.2.2.2 then [(mxI b.1 t.1, mxI b.2.1 t.2.1, t.2.2.2.2.2, mnI b.2.2.2.1 t.2.2.2.1, mnI b.2.2.2.2.1 t.2.2.2.2.1, b.2.2.2.2.2)] else []
/-- what a cut leaves of a box that it meets -/
def rem (b t : Bx) : List Bx := ((((rq0 b t ++ rq1 b t) ++ rq2 b t) ++ rq3 b t) ++ rq4 b t) ++ rq5 b t
def cutB (t b : Bx) : List Bx := if mt b t then rem b t else [b]
def cutL (t : Bx) (L : List Bx) : List Bx := L.flatMap (cutB t)
theorem cutL_app (t : Bx) (L : List Bx) (b : Bx) : cutL t (L ++ [b]) = cutL t L ++ cutB t b := by simp [cutL]
theorem upd_o {f : Nat → Int32} {k j : Nat} {x : Int32} (h : j ≠ k) : upd f k x j = f j := pk_un h
theorem wr6_lo (md : Nat → Int32) (n : Nat) (v0 V0 v1 V1 v2 V2 : Int32) {j : Nat} (h : j < 6 * n) : wr6 md n v0 V0 v1 V1 v2 V2 j = md j := by
  unfold wr6
  rw [upd_o (by omega), upd_o (by omega), upd_o (by omega), upd_o (by omega), upd_o (by omega), upd_o (by omega)]
theorem wr6_gb (md : Nat → Int32) (n : Nat) (v0 V0 v1 V1 v2 V2 : Int32) : gb (wr6 md n v0 V0 v1 V1 v2 V2) (6 * n) = (v0, v1, v2, V0, V1, V2) := by
  have h0 : wr6 md n v0 V0 v1 V1 v2 V2 (6 * n) = v0 := by
    unfold wr6; rw [upd_o (by omega), upd_o (by omega), upd_o (by omega), upd_o (by omega), upd_o (by omega)]; exact pk_us
  have h1 : wr6 md n v0 V0 v1 V1 v2 V2 (6 * n + 1) = v1 := by
    unfold wr6; rw [upd_o (by omega), upd_o (by omega), upd_o (by omega)]; exact pk_us
  have h2 : wr6 md n v0 V0 v1 V1 v2 V2 (6 * n + 2) = v2 := by
    unfold wr6; rw [upd_o (by omega)]; exact pk_us
  have h3 : wr6 md n v0 V0 v1 V1 v2 V2 (6 * n + 3) = V0 := by
    unfold wr6; rw [upd_o (by omega), upd_o (by omega), upd_o (by omega), upd_o (by omega)]; exact pk_us
  have h4 : wr6 md n v0 V0 v1 V1 v2 V2 (6 * n + 4) = V1 := by
    unfold wr6; rw [upd_o (by omega), upd_o (by omega)]; exact pk_us
  have h5 : wr6 md n v0 V0 v1 V1 v2 V2 (6 * n + 5) = V2 := by
    unfold wr6; exact pk_us
  unfold gb; rw [h0, h1, h2, h3, h4, h5]
theorem app6 {α : Type} (L p0 p1 p2 p3 p4 p5 : List α) : (((((L ++ p0) ++ p1) ++ p2) ++ p3) ++ p4) ++ p5 = L ++ (((((p0 ++ p1) ++ p2) ++ p3) ++ p4) ++ p5) := by simp only [List.append_assoc]
theorem pS_app {md : Nat → Int32} {c : Nat} {L : List Bx} (e : bl md 0 c = L) {P : Prop} [Decidable P] {v0 V0 v1 V1 v2 V2 : Int32} {q : Nat × (Nat → Int32)} (hq : q = if P then (c + 1, wr6 md c v0 V0 v1 V1 v2 V2) else (c, md)) : bl q.2 0 q.1 = L ++ (if P then [(v0, v1, v2, V0, V1, V2)] else []) := by
  by_cases h : P
  · rw [hq, if_pos h, if_pos h]
    exact bl_app e (fun j hj => wr6_lo _ _ _ _ _ _ _ _ hj) (wr6_gb _ _ _ _ _ _ _ _)
  · rw [hq, if_neg h, if_neg h, List.append_nil]; exact e
/-- the reference's pare: what is left of a box, behind what was there -/
theorem pAl_app {fd bx md : Nat → Int32} {o c : Nat} {L : List Bx} (e : bl md 0 c = L) : bl (pAl fd o bx (c, md)).2 0 (pAl fd o bx (c, md)).1 = L ++ rem (gb fd o) (gb bx 0) := by
  have h1 := pS_app e (q := pS0 fd o bx 0 (c, md)) rfl
  have h2 := pS_app h1 (q := pS1 fd o bx 0 (pS0 fd o bx 0 (c, md))) rfl
  have h3 := pS_app h2 (q := pS0 fd o bx 1 (pS1 fd o bx 0 (pS0 fd o bx 0 (c, md)))) rfl
  have h4 := pS_app h3 (q := pS1 fd o bx 1 (pS0 fd o bx 1 (pS1 fd o bx 0 (pS0 fd o bx 0 (c, md))))) rfl
  have h5 := pS_app h4 (q := pS0 fd o bx 2 (pS1 fd o bx 1 (pS0 fd o bx 1 (pS1 fd o bx 0 (pS0 fd o bx 0 (c, md)))))) rfl
  have h6 := pS_app h5 (q := pAl fd o bx (c, md)) rfl
  exact h6.trans (app6 _ _ _ _ _ _ _)
theorem mtS_mt {fd bx : Nat → Int32} {o : Nat} : mtS fd o bx ↔ mt (gb fd o) (gb bx 0) := Iff.rfl
/-- the reference's pareAll: the cut of the list of boxes -/
theorem pA_cut {fd bx md : Nat → Int32} {sd : Nat} (n : Nat) : bl (pA fd sd bx md n).2.2 0 (pA fd sd bx md n).1 = cutL (gb bx 0) (bl fd (144 * sd) n) ∧ (0 < (pA fd sd bx md n).2.1 ↔ ∃ b ∈ bl fd (144 * sd) n, mt b (gb bx 0)) := by
  induction n with
  | zero => exact ⟨rfl, by simp [pA, bl]⟩
  | succ n ih =>
    obtain ⟨h1, h2⟩ := ih
    rw [bl_s, cutL_app]
    by_cases h : mtS fd (oM sd n) bx
    · have e := (pA_t (fd := fd) (sd := sd) (bx := bx) (md := md) (i := n) (u := pAl fd (oM sd n) bx ((pA fd sd bx md n).1, (pA fd sd bx md n).2.2)) rfl h rfl).symm
      rw [e]
      refine ⟨?_, ?_⟩
      · have := pAl_app (fd := fd) (bx := bx) (o := oM sd n) h1
        rw [show cutB (gb bx 0) (gb fd (144 * sd + 6 * n)) = rem (gb fd (oM sd n)) (gb bx 0) from if_pos h]
        exact this
      · refine ⟨fun _ => ⟨gb fd (144 * sd + 6 * n), List.mem_append_right _ (List.mem_singleton.mpr rfl), h⟩, fun _ => Nat.succ_pos _⟩
    · have e := (pA_f (fd := fd) (sd := sd) (bx := bx) (md := md) (i := n) rfl h).symm
      rw [e]
      refine ⟨?_, ?_⟩
      · rw [show cutB (gb bx 0) (gb fd (144 * sd + 6 * n)) = [gb fd (oM sd n)] from if_neg h]
        refine bl_app h1 (fun j hj => ?_) (gb_congr fun j hj => ?_)
        · show va_cpy _ _ _ _ _ _ = _
          unfold va_cpy; rw [if_neg (by omega)]
        · show va_cpy _ _ _ _ _ _ = _
          unfold va_cpy; rw [if_pos (by omega)]
          congr 1; omega
      · show 0 < (pA fd sd bx md n).2.1 ↔ _
        rw [h2]
        constructor
        · rintro ⟨b, hb, hm⟩; exact ⟨b, List.mem_append_left _ hb, hm⟩
        · rintro ⟨b, hb, hm⟩
          rcases List.mem_append.mp hb with q | q
          · exact ⟨b, q, hm⟩
          · rw [List.mem_singleton.mp q] at hm; exact absurd hm h
