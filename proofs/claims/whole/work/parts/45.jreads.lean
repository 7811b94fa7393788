/-! What the reading calls answer, in lists: code (0 no throw) and answer. -/
theorem outI_noP {v : Int32} {n : Nat} (hn : n < 2 ^ 30) : outI v (nI 0) (nI n) ↔ noP v (n + 1) := by
  constructor
  · intro h
    refine Classical.byContradiction fun q => ?_
    obtain ⟨j, hj, rfl⟩ := noP_not (by omega) q
    rcases h with h | h
    · exact nI_pos (by omega) h
    · exact absurd h (nI_nlt (by omega) (by omega))
  · intro h
    refine Classical.byContradiction fun q => ?_
    obtain ⟨j, hj, rfl⟩ := out_not hn q
    exact noP_in (by omega) (by omega) h
def pcF (np : Nat) (PL : Nat → List Bx) (v : Int32) : Nat × Int32 := if noP v np then (1, nI 0) else (0, nI (PL (nat32 v)).length)
theorem pcF_1 {np : Nat} {PL : Nat → List Bx} {v : Int32} (h : noP v np) : pcF np PL v = (1, nI 0) := if_pos h
theorem pcF_0 {np : Nat} {PL : Nat → List Bx} {j : Nat} (h : j < np) (hn : np ≤ 8) : pcF np PL (nI j) = (0, nI (PL j).length) := by
  unfold pcF; rw [if_neg (noP_in h (by omega)), nat_nI (by omega)]
def cnB (b : Bx) (q : Nat) : Int32 := if q = 0 then b.1 else if q = 1 then b.2.1 else if q = 2 then b.2.2.1 else if q = 3 then b.2.2.2.1 else if q = 4 then b.2.2.2.2.1 else b.2.2.2.2.2
theorem cnB_gb (f : Nat → Int32) (o : Nat) {q : Nat} (h : q < 6) : cnB (gb f o) q = f (o + q) := by
  rcases (show q = 0 ∨ q = 1 ∨ q = 2 ∨ q = 3 ∨ q = 4 ∨ q = 5 by omega) with rfl | rfl | rfl | rfl | rfl | rfl <;> rfl
theorem bl_getD {f : Nat → Int32} {o n i : Nat} {L : List Bx} (e : bl f o n = L) (h : i < n) (d : Bx) : L.getD i d = gb f (o + 6 * i) := by
  subst e
  unfold bl
  rw [List.getD_eq_getElem?_getD, List.getElem?_map, List.getElem?_range h]; rfl
abbrev dB : Bx := (0, 0, 0, 0, 0, 0)
def coF (np : Nat) (PL : Nat → List Bx) (v pv kv : Int32) : Nat × Int32 := if noP v np ∨ noP pv (PL (nat32 v)).length ∨ noP kv 6 then (1, nI 0) else (0, cnB ((PL (nat32 v)).getD (nat32 pv) dB) (nat32 kv))
theorem coF_a {np : Nat} {PL : Nat → List Bx} {v pv kv : Int32} (h : noP v np) : coF np PL v pv kv = (1, nI 0) := if_pos (Or.inl h)
theorem coF_b {np : Nat} {PL : Nat → List Bx} {pv kv : Int32} {j : Nat} (hj : j < 8) (h : noP pv (PL j).length ∨ noP kv 6) : coF np PL (nI j) pv kv = (1, nI 0) := by
  unfold coF; rw [nat_nI (by omega), if_pos (Or.inr h)]
theorem coF_0 {np : Nat} {PL : Nat → List Bx} {j i q : Nat} (h : j < np) (hn : np ≤ 8) (hi : i < (PL j).length) (hl : (PL j).length ≤ 24) (hq : q < 6) : coF np PL (nI j) (nI i) (nI q) = (0, cnB ((PL j).getD i dB) q) := by
  unfold coF; rw [nat_nI (by omega), nat_nI (by omega), nat_nI (by omega), if_neg (fun x => x.elim (noP_in h (by omega)) (fun x => x.elim (noP_in hi (by omega)) (noP_in hq (by omega))))]
def vlF (np : Nat) (PL : Nat → List Bx) (v : Int32) : Nat × Int64 := if noP v np then (1, 0) else (0, sL vM (PL (nat32 v)))
theorem vlF_1 {np : Nat} {PL : Nat → List Bx} {v : Int32} (h : noP v np) : vlF np PL v = (1, 0) := if_pos h
theorem vlF_0 {np : Nat} {PL : Nat → List Bx} {j : Nat} (h : j < np) (hn : np ≤ 8) : vlF np PL (nI j) = (0, sL vM (PL j)) := by
  unfold vlF; rw [if_neg (noP_in h (by omega)), nat_nI (by omega)]
def twF (G : List Bx → List Bx → Int64) (np : Nat) (PL : Nat → List Bx) (a b : Int32) : Nat × Int64 := if noP a np ∨ noP b np then (1, 0) else if a = b then (2, 0) else (0, G (PL (nat32 a)) (PL (nat32 b)))
theorem twF_1 {G : List Bx → List Bx → Int64} {np : Nat} {PL : Nat → List Bx} {a b : Int32} (h : noP a np ∨ noP b np) : twF G np PL a b = (1, 0) := if_pos h
theorem twF_2 {G : List Bx → List Bx → Int64} {np : Nat} {PL : Nat → List Bx} {a b : Int32} (h : ¬ (noP a np ∨ noP b np)) (e : a = b) : twF G np PL a b = (2, 0) := (if_neg h).trans (if_pos e)
theorem no2 {np ja jb : Nat} (hn : np ≤ 8) (ha : ja < np) (hb : jb < np) : ¬ (noP (nI ja) np ∨ noP (nI jb) np) := fun q => q.elim (noP_in ha (by omega)) (noP_in hb (by omega))
theorem twF_0 {G : List Bx → List Bx → Int64} {np : Nat} {PL : Nat → List Bx} {ja jb : Nat} (hn : np ≤ 8) (ha : ja < np) (hb : jb < np) (e : ¬ nI ja = nI jb) : twF G np PL (nI ja) (nI jb) = (0, G (PL ja) (PL jb)) := by
  unfold twF; rw [if_neg (no2 hn ha hb), if_neg e, nat_nI (by omega), nat_nI (by omega)]
def inX (x y z : Int32) (b : Bx) : Bool := decide (¬ outI x b.1 b.2.2.2.1 ∧ ¬ outI y b.2.1 b.2.2.2.2.1 ∧ ¬ outI z b.2.2.1 b.2.2.2.2.2)
theorem anyB_L (f : Nat → Int32) (o : Nat) (x y z : Int32) (F : Nat → Nat) (hF : ∀ u, F u = o + 6 * u) (n : Nat) : anyB (fun u => inB f (F u) x y z) n = (bl f o n).any (inX x y z) := by
  induction n with
  | zero => rfl
  | succ n ih =>
    rw [bl_s, List.any_append, ← ih]
    show (anyB _ n || inB f (F n) x y z) = _
    rw [hF n]
    simp only [List.any_cons, List.any_nil, Bool.or_false]
    rfl
def hsF (np : Nat) (PL : Nat → List Bx) (v x y z : Int32) : Nat × Int32 := if noP v np then (1, nI 0) else (0, if (PL (nat32 v)).any (inX x y z) = true then nI 1 else nI 0)
theorem hsF_1 {np : Nat} {PL : Nat → List Bx} {v x y z : Int32} (h : noP v np) : hsF np PL v x y z = (1, nI 0) := if_pos h
theorem hsF_0 {np : Nat} {PL : Nat → List Bx} {j : Nat} {x y z : Int32} (h : j < np) (hn : np ≤ 8) : hsF np PL (nI j) x y z = (0, if (PL j).any (inX x y z) = true then nI 1 else nI 0) := by
  unfold hsF; rw [if_neg (noP_in h (by omega)), nat_nI (by omega)]
/-- a joint: kind, parts, axis, what was lost -/
abbrev kT : Type := Nat × Nat × Nat × Nat × Int64 × Int64
def stF (nj : Nat) (KT : Nat → kT) (PL : Nat → List Bx) (rw0 : Nat → Int32) (v : Int32) : Nat × Int64 := if noP v nj then (1, 0) else (0, toL (PL (KT (nat32 v)).2.1) (PL (KT (nat32 v)).2.2.1) * (rw0 (KT (nat32 v)).1).toInt64 / 100)
theorem stF_1 {nj : Nat} {KT : Nat → kT} {PL : Nat → List Bx} {rw0 : Nat → Int32} {v : Int32} (h : noP v nj) : stF nj KT PL rw0 v = (1, 0) := if_pos h
theorem stF_0 {nj : Nat} {KT : Nat → kT} {PL : Nat → List Bx} {rw0 : Nat → Int32} {q : Nat} (h : q < nj) (hn : nj ≤ 12) : stF nj KT PL rw0 (nI q) = (0, toL (PL (KT q).2.1) (PL (KT q).2.2.1) * (rw0 (KT q).1).toInt64 / 100) := by
  unfold stF; rw [if_neg (noP_in h (by omega)), nat_nI (by omega)]
def abK (t : kT) (i : Nat) : Int64 := if i = 0 then (nI t.1).toInt64 else if i = 1 then (nI t.2.1).toInt64 else if i = 2 then (nI t.2.2.1).toInt64 else if i = 3 then (nI t.2.2.2.1).toInt64 else if i = 4 then t.2.2.2.2.1 else t.2.2.2.2.2
def abF (nj : Nat) (KT : Nat → kT) (v wv : Int32) : Nat × Int64 := if noP v nj ∨ noP wv 6 then (1, 0) else (0, abK (KT (nat32 v)) (nat32 wv))
theorem abF_1 {nj : Nat} {KT : Nat → kT} {v wv : Int32} (h : noP v nj ∨ noP wv 6) : abF nj KT v wv = (1, 0) := if_pos h
theorem abF_0 {nj : Nat} {KT : Nat → kT} {q i : Nat} (h : q < nj) (hn : nj ≤ 12) (hi : i < 6) : abF nj KT (nI q) (nI i) = (0, abK (KT q) i) := by
  unfold abF; rw [if_neg (fun x => x.elim (noP_in h (by omega)) (noP_in hi (by omega))), nat_nI (by omega), nat_nI (by omega)]
/-- the first pair that overlaps -/
def fiR (np : Nat) (PL : Nat → List Bx) (rr : Int32) : Prop := (∃ a b : Nat, a < b ∧ b < np ∧ 0 < ovL (PL a) (PL b) ∧ rr = nI (8 * a + b) ∧ ∀ a2 b2 : Nat, a2 < b2 → b2 < np → (a2 < a ∨ (a2 = a ∧ b2 < b)) → ¬ 0 < ovL (PL a2) (PL b2)) ∨ (rr = -1 ∧ ∀ a b : Nat, a < b → b < np → ¬ 0 < ovL (PL a) (PL b))
theorem fiR_det {np : Nat} {PL : Nat → List Bx} {r1 r2 : Int32} (h1 : fiR np PL r1) (h2 : fiR np PL r2) : r1 = r2 := by
  rcases h1 with ⟨a, b, h1, h2', h3, h4, h5⟩ | ⟨h1, h2'⟩
  · rcases h2 with ⟨a2, b2, k1, k2, k3, k4, k5⟩ | ⟨k1, k2⟩
    · have e : a = a2 ∧ b = b2 := by
        refine Classical.byContradiction fun q => ?_
        rcases (show (a2 < a ∨ (a2 = a ∧ b2 < b)) ∨ (a < a2 ∨ (a = a2 ∧ b < b2)) by omega) with w | w
        · exact h5 a2 b2 k1 k2 w k3
        · exact k5 a b h1 h2' w h3
      rw [h4, k4, e.1, e.2]
    · exact absurd h3 (k2 a b h1 h2')
  · rcases h2 with ⟨a2, b2, k1, k2, k3, k4, k5⟩ | ⟨k1, k2⟩
    · exact absurd k3 (h2' a2 b2 k1 k2)
    · rw [h1, k1]
/-! The class's parts and joints, as reads see them. -/
def pP (g : gT) (H : Heap) (np : Nat) (gp : Nat → Option Nat) (PA PB : Nat → Nat) (PF : Nat → Nat → Int32) (PL : Nat → List Bx) : Prop :=
  np ≤ 8 ∧ (∀ j, j < np → gp j = some (PA j)) ∧ (∀ j, np ≤ j → j < 8 → gp j = none) ∧ ∀ j, j < np → va_P g.1 cls [(PA j, .inr (0, [.ref (PB j), .int (nI (PL j).length)])), (PB j, eI g 144 (PF j))] H ∧ sR (PF j) (PL j).length (PL j) ∧ okL (PL j)
abbrev kE (t : kT) : va_E := .inr (2, [.int (nI t.1), .int (nI t.2.1), .int (nI t.2.2.1), .int (nI t.2.2.2.1), .long t.2.2.2.2.1, .long t.2.2.2.2.2])
def kP (g : gT) (H : Heap) (nj : Nat) (gk : Nat → Option Nat) (KA : Nat → Nat) (KT : Nat → kT) : Prop :=
  nj ≤ 12 ∧ (∀ j, j < nj → gk j = some (KA j)) ∧ (∀ j, nj ≤ j → j < 12 → gk j = none) ∧ ∀ j, j < nj → va_P g.1 cls [(KA j, kE (KT j))] H
theorem gp_some {n N : Nat} {gp : Nat → Option Nat} {PA : Nat → Nat} {v : Int32} {r : Nat} (h1 : ∀ j, j < n → gp j = some (PA j)) (h2 : ∀ j, n ≤ j → j < N → gp j = none) (h : ∃ j : Nat, j < N ∧ v = nI j ∧ gp j = some r) : ∃ j : Nat, j < n ∧ v = nI j ∧ r = PA j := by
  obtain ⟨j, hj, hv, hr⟩ := h
  by_cases q : j < n
  · exact ⟨j, q, hv, Option.some.inj (hr.symm.trans (h1 j q))⟩
  · rw [h2 j (by omega) hj] at hr; cases hr
theorem gp_none {n N : Nat} {gp : Nat → Option Nat} {PA : Nat → Nat} {v : Int32} (hn : n ≤ N) (hN : N < 100) (h1 : ∀ j, j < n → gp j = some (PA j)) (h : ∀ j : Nat, j < N → v = nI j → gp j = none) : noP v n := by
  refine Classical.byContradiction fun q => ?_
  obtain ⟨j, hj, hv⟩ := noP_not (by omega) q
  have := h j (by omega) hv
  rw [h1 j hj] at this; cases this
theorem tot_vM {f : Nat → Int32} {L : List Bx} (hR : sR f L.length L) (hL : okL L) : totS f L.length = sL vM L := by
  rw [totS_L, hR.2.2]; exact sL_congr fun b hb => vJ_vM (hL b hb)
set_option maxHeartbeats 4000000 in
set_option maxRecDepth 100000 in
theorem x_J_pieces (l : Launch) (hlt : l.stackTraces = false) (g : gT) (z : Nat) (H0 : Heap) (h : Nat) (fs : List Value) (pa np : Nat) (gp : Nat → Option Nat) (PA PB : Nat → Nat) (PF : Nat → Nat → Int32) (PL : Nat → List Bx) (v : Int32) : vx_Met l y_J_pieces w_J_pieces ({ frames := 7, cells := 1, slots := 6, locals := 103 }) (va_Pc [.ref h, .int (v)] (pB g z H0 (va_P g.1 cls [(h, .inr (1, fs)), (pa, ePS g 8 gp)] H0 ∧ fs[0]? = some (.ref pa) ∧ pP g H0 np gp PA PB PF PL))) (va_Qi (fun (rr : Int32) (_ : Unit) => pcF np PL v = (0, rr)) (fun _ t => t.heap = H0) nA) (xX (fun E => E = E_IOB ∧ (pcF np PL v).1 = 1) H0) 1 6 nA := by
  refine vx_ofW (cc := c_J_pieces) (maxL := 2) (ret := (some .int)) (by decide) rfl ?_
  intro p e s m args below meth c s₁ B hml htab hv
  obtain ⟨rfl, hH0, ha, hP, hf0, hnp, hg1, hg2, hgp⟩ := hv
  have hx := B.exec
  have hb := B.bytes
  have hr := B.returns
  have htB : ∀ w ∈ tB, w.before _ s = true := fun w h => atoms_spec (ws := w_J_pieces) B.pre w (List.mem_cons_of_mem _ h)
  have hown : s.vm.findClass "JointSolids" = some m.cls := findClass_of_methodNamed B.named
  have hlocks := B.notSynchronized
  subst hH0
  have hz : ∀ q, nA q → z ≤ q := nA_z
  have hS : va_S nA s.heap s.heap [] := va_S.rf
  have hl := lv_entry ([.ref h, .int (v)]) (n := 2) (Nat.le_of_ble_eq_true rfl)
  rw [lg_entry_eq]
  generalize (lg_sl ([.ref h, .int (v)]) ++ List.replicate (2 - (lg_sl ([.ref h, .int (v)])).length) Slot.unset).toArray = ls at hl ⊢
  have hl : lv_has ls 2 [(0, .ref h), (1, .int (v))] := hl
  refine lv_aload_n hx hb d_J_pieces_0 rfl (lv_at hl 0 rfl) ?_
  refine lv_iload_n hx hb d_J_pieces_1 rfl (lv_at hl 1 rfl) ?_
  refine vx_callr (vx_runV (As := [.int (v)]) (rest := []) ⟨hx, hb, hml, hown, htB⟩ (x_J_solidOf l hlt g z _ h fs pa gp (v)) (cwV 1 htB (gV kw_87 kw_89 ks_0_0 kw_1 g_J_solidOf) rfl rfl rfl (by decide +kernel) ⟨Nat.le_of_ble_eq_true rfl, Nat.le_of_ble_eq_true rfl⟩) (pre_V hS hz ha (va_recv ha.1 hP (ci := 1) (q0 := 0) rfl rfl) ⟨va_pair (hP 0 _ rfl) (hP 1 _ rfl), hf0⟩) rfl rfl hl.1 rfl (lv_room (Nat.le_of_ble_eq_true rfl)) d_J_pieces_2 ⟨Nat.le_of_ble_eq_true rfl, Nat.le_of_ble_eq_true rfl⟩) hS (fun q _ h => h.elim) (fun q h => h.elim) (fun q h1 h2 => absurd h1 (Nat.not_lt.mpr h2)) (fun E ce q9 u t H1 locs ht hal hpx hBX hsz hk hS hce hcv hcl => ?_) (fun r_1 u t H1 locs ht hvm hw hB hz1 hk1 hS => ?_)
  · obtain ⟨hE, hkp⟩ := hBX
    exact vx_out (fun x h => (htab x h).elim) hlocks hce hcv hcl (fun t2 ht2 hal2 => ⟨(), trivial, ⟨⟨hE.1, by rw [pcF_1 (gp_none hnp (by decide) hg1 hE.2)]⟩, kpt.mv (ht.trans ht2.symm) hkp⟩, (kpt.mv (ht.trans ht2.symm) hkp).1, fun q hq _ => (kpt.mv (ht.trans ht2.symm) hkp).2 q hq⟩) hS.2.2 (Nat.le_of_ble_eq_true rfl) (Nat.le_of_ble_eq_true rfl)
  · obtain ⟨hans, hB⟩ := hB
    obtain rfl := hB.symm.trans ht
    obtain ⟨ja, hja, rfl, rfl⟩ := gp_some hg1 hg2 hans
    obtain ⟨hPja, hRja, hKja⟩ := hgp ja hja
    have hLja := hRja.2.1
    have hP := va_app hP hPja
    have hP : va_P g.1 cls [(h, .inr (1, fs)), (pa, ePS g 8 (gp)), ((PA ja), .inr (0, [.ref (PB ja), .int (nI ((PL ja).length))])), ((PB ja), eI g 144 (PF ja))] s.heap := hP
    refine va_getN (D := g.1) (ci := 0) (v := .int (nI ((PL ja).length))) (C := R_S) (T := F_S) (N := 2) hx hb htB in_S hown ha.1 hP 2 rfl rfl 1 (by decide) (va_Nw.use rfl (ha.2.1 _ nb_2)) (fun _ h9 => h9) rfl d_J_pieces_5 ?_
    exact vx_ret (W.widen (k := 1) (n := 6) (Nat.le_of_ble_eq_true rfl) (Nat.le_of_ble_eq_true rfl) (W.iret (v := (nI ((PL ja).length))) hx hb hr (fun t ht hW => ⟨⟨(nI ((PL ja).length)), (), rfl, pcF_0 hja hnp, ht⟩, hS.F ht⟩) hS.2.2 d_J_pieces_8))
set_option maxHeartbeats 4000000 in
set_option maxRecDepth 100000 in
theorem x_J_corner (l : Launch) (hlt : l.stackTraces = false) (g : gT) (z : Nat) (H0 : Heap) (h : Nat) (fs : List Value) (pa np : Nat) (gp : Nat → Option Nat) (PA PB : Nat → Nat) (PF : Nat → Nat → Int32) (PL : Nat → List Bx) (v pv kv : Int32) : vx_Met l y_J_corner w_J_corner ({ frames := 7, cells := 2, slots := 12, locals := 103 }) (va_Pc [.ref h, .int (v), .int (pv), .int (kv)] (pB g z H0 (va_P g.1 cls [(h, .inr (1, fs)), (pa, ePS g 8 gp)] H0 ∧ fs[0]? = some (.ref pa) ∧ pP g H0 np gp PA PB PF PL))) (va_Qi (fun (rr : Int32) (_ : Unit) => coF np PL v pv kv = (0, rr)) (fun _ t => t.heap = H0) nA) (xX (fun E => E = E_IOB ∧ (coF np PL v pv kv).1 = 1) H0) 2 12 nA := by
  refine vx_ofW (cc := c_J_corner) (maxL := 5) (ret := (some .int)) (by decide) rfl ?_
  intro p e s m args below meth c s₁ B hml htab hv
  obtain ⟨rfl, hH0, ha, hP, hf0, hnp, hg1, hg2, hgp⟩ := hv
  have hx := B.exec
  have hb := B.bytes
  have hr := B.returns
  have htB : ∀ w ∈ tB, w.before _ s = true := fun w h => atoms_spec (ws := w_J_corner) B.pre w (List.mem_cons_of_mem _ h)
  have hown : s.vm.findClass "JointSolids" = some m.cls := findClass_of_methodNamed B.named
  have hlocks := B.notSynchronized
  subst hH0
  have hz : ∀ q, nA q → z ≤ q := nA_z
  have hS : va_S nA s.heap s.heap [] := va_S.rf
  have hl := lv_entry ([.ref h, .int (v), .int (pv), .int (kv)]) (n := 5) (Nat.le_of_ble_eq_true rfl)
  rw [lg_entry_eq]
  generalize (lg_sl ([.ref h, .int (v), .int (pv), .int (kv)]) ++ List.replicate (5 - (lg_sl ([.ref h, .int (v), .int (pv), .int (kv)])).length) Slot.unset).toArray = ls at hl ⊢
  have hl : lv_has ls 5 [(0, .ref h), (1, .int (v)), (2, .int (pv)), (3, .int (kv))] := hl
  refine lv_aload_n hx hb d_J_corner_0 rfl (lv_at hl 0 rfl) ?_
  refine lv_iload_n hx hb d_J_corner_1 rfl (lv_at hl 1 rfl) ?_
  refine vx_callr (vx_runV (As := [.int (v)]) (rest := []) ⟨hx, hb, hml, hown, htB⟩ (x_J_solidOf l hlt g z _ h fs pa gp (v)) (cwV 1 htB (gV kw_87 kw_89 ks_0_0 kw_1 g_J_solidOf) rfl rfl rfl (by decide +kernel) ⟨Nat.le_of_ble_eq_true rfl, Nat.le_of_ble_eq_true rfl⟩) (pre_V hS hz ha (va_recv ha.1 hP (ci := 1) (q0 := 0) rfl rfl) ⟨va_pair (hP 0 _ rfl) (hP 1 _ rfl), hf0⟩) rfl rfl hl.1 rfl (lv_room (Nat.le_of_ble_eq_true rfl)) d_J_corner_2 ⟨Nat.le_of_ble_eq_true rfl, Nat.le_of_ble_eq_true rfl⟩) hS (fun q _ h => h.elim) (fun q h => h.elim) (fun q h1 h2 => absurd h1 (Nat.not_lt.mpr h2)) (fun E ce q9 u t H1 locs ht hal hpx hBX hsz hk hS hce hcv hcl => ?_) (fun r_1 u t H1 locs ht hvm hw hB hz1 hk1 hS => ?_)
  · obtain ⟨hE, hkp⟩ := hBX
    exact vx_out (fun x h => (htab x h).elim) hlocks hce hcv hcl (fun t2 ht2 hal2 => ⟨(), trivial, ⟨⟨hE.1, by rw [coF_a (gp_none hnp (by decide) hg1 hE.2)]⟩, kpt.mv (ht.trans ht2.symm) hkp⟩, (kpt.mv (ht.trans ht2.symm) hkp).1, fun q hq _ => (kpt.mv (ht.trans ht2.symm) hkp).2 q hq⟩) hS.2.2 (Nat.le_of_ble_eq_true rfl) (Nat.le_of_ble_eq_true rfl)
  · obtain ⟨hans, hB⟩ := hB
    obtain rfl := hB.symm.trans ht
    obtain ⟨ja, hja, rfl, rfl⟩ := gp_some hg1 hg2 hans
    obtain ⟨hPja, hRja, hKja⟩ := hgp ja hja
    have hLja := hRja.2.1
    have hP := va_app hP hPja
    have hP : va_P g.1 cls [(h, .inr (1, fs)), (pa, ePS g 8 (gp)), ((PA ja), .inr (0, [.ref (PB ja), .int (nI ((PL ja).length))])), ((PB ja), eI g 144 (PF ja))] s.heap := hP
    refine lv_astore (lv' := [(4, .ref (PA ja)), (0, .ref h), (1, .int (nI (ja))), (2, .int (pv)), (3, .int (kv))]) hx hb d_J_corner_5 hl (by decide) rfl (fun ls hl => ?_)
    refine lv_iload_n hx hb d_J_corner_7 rfl (lv_at hl 3 rfl) ?_
    refine lv_if_lt (tgt := 20) hx hb d_J_corner_8 (by decide) (fun c_2 => ?_) (fun c_2 => ?_)
    · exact thr_IOB hx hb hlt hown htB ha hz sB_165 hS (hl.1.trans hml.symm) htab d_J_corner_20 d_J_corner_23 d_J_corner_24 d_J_corner_26 d_J_corner_29 (Nat.le_of_ble_eq_true rfl) (Nat.le_of_ble_eq_true rfl) (Nat.le_of_ble_eq_true rfl) (Nat.le_of_ble_eq_true rfl) hlocks (fun t _ h1 h2 => ⟨(), trivial, ⟨⟨rfl, by rw [coF_b (by omega) (Or.inl (Or.inl c_2))]⟩, h1, h2⟩, h1, fun q hq _ => h2 q hq⟩) hS.2.2 (Nat.le_of_ble_eq_true rfl) (Nat.le_of_ble_eq_true rfl)
    · refine lv_iload_n hx hb d_J_corner_11 rfl (lv_at hl 3 rfl) ?_
      refine lv_aload hx hb d_J_corner_12 (lv_at hl 0 rfl) ?_
      refine va_getN (D := g.1) (ci := 0) (v := .int (nI ((PL ja).length))) (C := R_S) (T := F_S) (N := 2) hx hb htB in_S hown ha.1 hP 2 rfl rfl 1 (by decide) (va_Nw.use rfl (ha.2.1 _ nb_2)) (fun _ h9 => h9) rfl d_J_corner_14 ?_
      refine lv_icmp_lt (tgt := 30) hx hb d_J_corner_17 (by decide) (fun c_3 => ?_) (fun c_3 => ?_)
      · refine lv_iload_n hx hb d_J_corner_30 rfl (lv_at hl 4 rfl) ?_
        refine lv_if_lt (tgt := 40) hx hb d_J_corner_31 (by decide) (fun c_4 => ?_) (fun c_4 => ?_)
        · exact thr_IOB hx hb hlt hown htB ha hz sB_168 hS (hl.1.trans hml.symm) htab d_J_corner_40 d_J_corner_43 d_J_corner_44 d_J_corner_46 d_J_corner_49 (Nat.le_of_ble_eq_true rfl) (Nat.le_of_ble_eq_true rfl) (Nat.le_of_ble_eq_true rfl) (Nat.le_of_ble_eq_true rfl) hlocks (fun t _ h1 h2 => ⟨(), trivial, ⟨⟨rfl, by rw [coF_b (by omega) (Or.inr (Or.inl c_4))]⟩, h1, h2⟩, h1, fun q hq _ => h2 q hq⟩) hS.2.2 (Nat.le_of_ble_eq_true rfl) (Nat.le_of_ble_eq_true rfl)
        · refine lv_iload_n hx hb d_J_corner_34 rfl (lv_at hl 4 rfl) ?_
          refine lv_bipush (v := (nI (6))) hx hb d_J_corner_35 (by decide) ?_
          refine lv_icmp_lt (tgt := 50) hx hb d_J_corner_37 (by decide) (fun c_5 => ?_) (fun c_5 => ?_)
          · obtain ⟨i, hi, rfl⟩ := noP_not (v := pv) (n := (PL ja).length) (by omega) (fun q => q.elim c_2 (fun q => q c_3))
            obtain ⟨q, hq, rfl⟩ := noP_not (v := kv) (n := 6) (by omega) (fun q => q.elim c_4 (fun q => q c_5))
            refine lv_aload hx hb d_J_corner_50 (lv_at hl 0 rfl) ?_
            refine va_getN (D := g.1) (ci := 0) (v := .ref (PB ja)) (C := R_S) (T := F_S) (N := 2) hx hb htB in_S hown ha.1 hP 2 rfl rfl 0 (by decide) (va_Nw.use rfl (ha.2.1 _ nb_1)) (fun _ h9 => h9) rfl d_J_corner_52 ?_
            refine lv_iload_n hx hb d_J_corner_55 rfl (lv_at hl 3 rfl) ?_
            refine lv_bipush (v := (nI (6))) hx hb d_J_corner_56 (by decide) ?_
            refine jv_imul hx hb d_J_corner_58 ?_
            refine lv_iload_n hx hb d_J_corner_59 rfl (lv_at hl 4 rfl) ?_
            refine jv_iadd hx hb d_J_corner_60 ?_
            refine ja_ald (k := (i * 6) + q) hx hb ha.1 hP 3 0 rfl rfl (by omega) (by omega) d_J_corner_61 ?_
            exact vx_ret (W.widen (k := 2) (n := 12) (Nat.le_of_ble_eq_true rfl) (Nat.le_of_ble_eq_true rfl) (W.iret (v := (PF ja ((i * 6) + q))) hx hb hr (fun t ht hW => ⟨⟨(PF ja ((i * 6) + q)), (), rfl, by rw [coF_0 hja hnp hi hLja hq, bl_getD hRja.2.2 hi, cnB_gb _ _ hq, Nat.zero_add, Nat.mul_comm 6 i], ht⟩, hS.F ht⟩) hS.2.2 d_J_corner_62))
          · exact thr_IOB hx hb hlt hown htB ha hz sB_168 hS (hl.1.trans hml.symm) htab d_J_corner_40 d_J_corner_43 d_J_corner_44 d_J_corner_46 d_J_corner_49 (Nat.le_of_ble_eq_true rfl) (Nat.le_of_ble_eq_true rfl) (Nat.le_of_ble_eq_true rfl) (Nat.le_of_ble_eq_true rfl) hlocks (fun t _ h1 h2 => ⟨(), trivial, ⟨⟨rfl, by rw [coF_b (by omega) (Or.inr (Or.inr c_5))]⟩, h1, h2⟩, h1, fun q hq _ => h2 q hq⟩) hS.2.2 (Nat.le_of_ble_eq_true rfl) (Nat.le_of_ble_eq_true rfl)
      · exact thr_IOB hx hb hlt hown htB ha hz sB_165 hS (hl.1.trans hml.symm) htab d_J_corner_20 d_J_corner_23 d_J_corner_24 d_J_corner_26 d_J_corner_29 (Nat.le_of_ble_eq_true rfl) (Nat.le_of_ble_eq_true rfl) (Nat.le_of_ble_eq_true rfl) (Nat.le_of_ble_eq_true rfl) hlocks (fun t _ h1 h2 => ⟨(), trivial, ⟨⟨rfl, by rw [coF_b (by omega) (Or.inl (Or.inr c_3))]⟩, h1, h2⟩, h1, fun q hq _ => h2 q hq⟩) hS.2.2 (Nat.le_of_ble_eq_true rfl) (Nat.le_of_ble_eq_true rfl)
set_option maxHeartbeats 4000000 in
set_option maxRecDepth 100000 in
theorem x_J_volume (l : Launch) (hlt : l.stackTraces = false) (g : gT) (z : Nat) (H0 : Heap) (h : Nat) (fs : List Value) (pa np : Nat) (gp : Nat → Option Nat) (PA PB : Nat → Nat) (PF : Nat → Nat → Int32) (PL : Nat → List Bx) (v : Int32) : vx_Met l y_J_volume w_J_volume ({ frames := 7, cells := 1, slots := 6, locals := 103 }) (va_Pc [.ref h, .int (v)] (pB g z H0 (va_P g.1 cls [(h, .inr (1, fs)), (pa, ePS g 8 gp)] H0 ∧ fs[0]? = some (.ref pa) ∧ pP g H0 np gp PA PB PF PL))) (va_Ql (fun (rr : Int64) (_ : Unit) => vlF np PL v = (0, rr)) (fun _ t => t.heap = H0) nA) (xX (fun E => E = E_IOB ∧ (vlF np PL v).1 = 1) H0) 1 6 nA := by
  refine vx_ofW (cc := c_J_volume) (maxL := 2) (ret := (some .long)) (by decide) rfl ?_
  intro p e s m args below meth c s₁ B hml htab hv
  obtain ⟨rfl, hH0, ha, hP, hf0, hnp, hg1, hg2, hgp⟩ := hv
  have hx := B.exec
  have hb := B.bytes
  have hr := B.returns
  have htB : ∀ w ∈ tB, w.before _ s = true := fun w h => atoms_spec (ws := w_J_volume) B.pre w (List.mem_cons_of_mem _ h)
  have hown : s.vm.findClass "JointSolids" = some m.cls := findClass_of_methodNamed B.named
  have hlocks := B.notSynchronized
  subst hH0
  have hz : ∀ q, nA q → z ≤ q := nA_z
  have hS : va_S nA s.heap s.heap [] := va_S.rf
  have hl := lv_entry ([.ref h, .int (v)]) (n := 2) (Nat.le_of_ble_eq_true rfl)
  rw [lg_entry_eq]
  generalize (lg_sl ([.ref h, .int (v)]) ++ List.replicate (2 - (lg_sl ([.ref h, .int (v)])).length) Slot.unset).toArray = ls at hl ⊢
  have hl : lv_has ls 2 [(0, .ref h), (1, .int (v))] := hl
  refine lv_aload_n hx hb d_J_volume_0 rfl (lv_at hl 0 rfl) ?_
  refine lv_iload_n hx hb d_J_volume_1 rfl (lv_at hl 1 rfl) ?_
  refine vx_callr (vx_runV (As := [.int (v)]) (rest := []) ⟨hx, hb, hml, hown, htB⟩ (x_J_solidOf l hlt g z _ h fs pa gp (v)) (cwV 1 htB (gV kw_87 kw_89 ks_0_0 kw_1 g_J_solidOf) rfl rfl rfl (by decide +kernel) ⟨Nat.le_of_ble_eq_true rfl, Nat.le_of_ble_eq_true rfl⟩) (pre_V hS hz ha (va_recv ha.1 hP (ci := 1) (q0 := 0) rfl rfl) ⟨va_pair (hP 0 _ rfl) (hP 1 _ rfl), hf0⟩) rfl rfl hl.1 rfl (lv_room (Nat.le_of_ble_eq_true rfl)) d_J_volume_2 ⟨Nat.le_of_ble_eq_true rfl, Nat.le_of_ble_eq_true rfl⟩) hS (fun q _ h => h.elim) (fun q h => h.elim) (fun q h1 h2 => absurd h1 (Nat.not_lt.mpr h2)) (fun E ce q9 u t H1 locs ht hal hpx hBX hsz hk hS hce hcv hcl => ?_) (fun r_1 u t H1 locs ht hvm hw hB hz1 hk1 hS => ?_)
  · obtain ⟨hE, hkp⟩ := hBX
    exact vx_out (fun x h => (htab x h).elim) hlocks hce hcv hcl (fun t2 ht2 hal2 => ⟨(), trivial, ⟨⟨hE.1, by rw [vlF_1 (gp_none hnp (by decide) hg1 hE.2)]⟩, kpt.mv (ht.trans ht2.symm) hkp⟩, (kpt.mv (ht.trans ht2.symm) hkp).1, fun q hq _ => (kpt.mv (ht.trans ht2.symm) hkp).2 q hq⟩) hS.2.2 (Nat.le_of_ble_eq_true rfl) (Nat.le_of_ble_eq_true rfl)
  · obtain ⟨hans, hB⟩ := hB
    obtain rfl := hB.symm.trans ht
    obtain ⟨ja, hja, rfl, rfl⟩ := gp_some hg1 hg2 hans
    obtain ⟨hPja, hRja, hKja⟩ := hgp ja hja
    have hLja := hRja.2.1
    have hP := va_app hP hPja
    have hP : va_P g.1 cls [(h, .inr (1, fs)), (pa, ePS g 8 (gp)), ((PA ja), .inr (0, [.ref (PB ja), .int (nI ((PL ja).length))])), ((PB ja), eI g 144 (PF ja))] s.heap := hP
    refine va_calll (va_runVN (As := []) (rest := []) ⟨hx, hb, hml, hown, htB⟩ (p_S_total l g z _ (PA ja) (PB ja) ((PL ja).length) (PF ja)) ⟨va_cnB 0 htB g_S_total rfl rfl rfl (ha.2.1 _ nb_13) (htB _ kw_2) (by decide +kernel) ⟨by decide, by decide⟩, htB _ kw_244, htB _ ks_0_4⟩ (pre_V hS hz ha (va_recv ha.1 hP (ci := 0) (q0 := 2) rfl rfl) ⟨va_pair (hP 2 _ rfl) (hP 3 _ rfl), by omega⟩) rfl rfl hl.1 rfl (lv_room (Nat.le_of_ble_eq_true rfl)) d_J_volume_5 ⟨by decide, by decide⟩) hS (fun q _ h => h.elim) (fun q h => h.elim) (fun r_2 u t H1 locs ht hvm hw hB hz1 hk1 hS => ?_)
    obtain rfl := hB.symm.trans ht
    subst hw
    exact vx_ret (W.widen (k := 1) (n := 6) (Nat.le_of_ble_eq_true rfl) (Nat.le_of_ble_eq_true rfl) (W.lret (v := (totS (PF ja) ((PL ja).length))) hx hb hr (fun t ht hW => ⟨⟨(totS (PF ja) ((PL ja).length)), (), rfl, by rw [vlF_0 hja hnp, tot_vM hRja hKja], ht⟩, hS.F ht⟩) hS.2.2 d_J_volume_8))
set_option maxHeartbeats 4000000 in
set_option maxRecDepth 100000 in
theorem x_J_has (l : Launch) (hlt : l.stackTraces = false) (g : gT) (z : Nat) (H0 : Heap) (h : Nat) (fs : List Value) (pa np : Nat) (gp : Nat → Option Nat) (PA PB : Nat → Nat) (PF : Nat → Nat → Int32) (PL : Nat → List Bx) (v x y zz : Int32) : vx_Met l y_J_has w_J_has ({ frames := 7, cells := 1, slots := 6, locals := 103 }) (va_Pc [.ref h, .int (v), .int (x), .int (y), .int (zz)] (pB g z H0 (va_P g.1 cls [(h, .inr (1, fs)), (pa, ePS g 8 gp)] H0 ∧ fs[0]? = some (.ref pa) ∧ pP g H0 np gp PA PB PF PL))) (va_Qi (fun (rr : Int32) (_ : Unit) => hsF np PL v x y zz = (0, rr)) (fun _ t => t.heap = H0) nA) (xX (fun E => E = E_IOB ∧ (hsF np PL v x y zz).1 = 1) H0) 1 6 nA := by
  refine vx_ofW (cc := c_J_has) (maxL := 5) (ret := (some .boolean)) (by decide) rfl ?_
  intro p e s m args below meth c s₁ B hml htab hv
  obtain ⟨rfl, hH0, ha, hP, hf0, hnp, hg1, hg2, hgp⟩ := hv
  have hx := B.exec
  have hb := B.bytes
  have hr := B.returns
  have htB : ∀ w ∈ tB, w.before _ s = true := fun w h => atoms_spec (ws := w_J_has) B.pre w (List.mem_cons_of_mem _ h)
  have hown : s.vm.findClass "JointSolids" = some m.cls := findClass_of_methodNamed B.named
  have hlocks := B.notSynchronized
  subst hH0
  have hz : ∀ q, nA q → z ≤ q := nA_z
  have hS : va_S nA s.heap s.heap [] := va_S.rf
  have hl := lv_entry ([.ref h, .int (v), .int (x), .int (y), .int (zz)]) (n := 5) (Nat.le_of_ble_eq_true rfl)
  rw [lg_entry_eq]
  generalize (lg_sl ([.ref h, .int (v), .int (x), .int (y), .int (zz)]) ++ List.replicate (5 - (lg_sl ([.ref h, .int (v), .int (x), .int (y), .int (zz)])).length) Slot.unset).toArray = ls at hl ⊢
  have hl : lv_has ls 5 [(0, .ref h), (1, .int (v)), (2, .int (x)), (3, .int (y)), (4, .int (zz))] := hl
  refine lv_aload_n hx hb d_J_has_0 rfl (lv_at hl 0 rfl) ?_
  refine lv_iload_n hx hb d_J_has_1 rfl (lv_at hl 1 rfl) ?_
  refine vx_callr (vx_runV (As := [.int (v)]) (rest := []) ⟨hx, hb, hml, hown, htB⟩ (x_J_solidOf l hlt g z _ h fs pa gp (v)) (cwV 1 htB (gV kw_87 kw_89 ks_0_0 kw_1 g_J_solidOf) rfl rfl rfl (by decide +kernel) ⟨Nat.le_of_ble_eq_true rfl, Nat.le_of_ble_eq_true rfl⟩) (pre_V hS hz ha (va_recv ha.1 hP (ci := 1) (q0 := 0) rfl rfl) ⟨va_pair (hP 0 _ rfl) (hP 1 _ rfl), hf0⟩) rfl rfl hl.1 rfl (lv_room (Nat.le_of_ble_eq_true rfl)) d_J_has_2 ⟨Nat.le_of_ble_eq_true rfl, Nat.le_of_ble_eq_true rfl⟩) hS (fun q _ h => h.elim) (fun q h => h.elim) (fun q h1 h2 => absurd h1 (Nat.not_lt.mpr h2)) (fun E ce q9 u t H1 locs ht hal hpx hBX hsz hk hS hce hcv hcl => ?_) (fun r_1 u t H1 locs ht hvm hw hB hz1 hk1 hS => ?_)
  · obtain ⟨hE, hkp⟩ := hBX
    exact vx_out (fun x h => (htab x h).elim) hlocks hce hcv hcl (fun t2 ht2 hal2 => ⟨(), trivial, ⟨⟨hE.1, by rw [hsF_1 (gp_none hnp (by decide) hg1 hE.2)]⟩, kpt.mv (ht.trans ht2.symm) hkp⟩, (kpt.mv (ht.trans ht2.symm) hkp).1, fun q hq _ => (kpt.mv (ht.trans ht2.symm) hkp).2 q hq⟩) hS.2.2 (Nat.le_of_ble_eq_true rfl) (Nat.le_of_ble_eq_true rfl)
  · obtain ⟨hans, hB⟩ := hB
    obtain rfl := hB.symm.trans ht
    obtain ⟨ja, hja, rfl, rfl⟩ := gp_some hg1 hg2 hans
    obtain ⟨hPja, hRja, hKja⟩ := hgp ja hja
    have hLja := hRja.2.1
    have hP := va_app hP hPja
    have hP : va_P g.1 cls [(h, .inr (1, fs)), (pa, ePS g 8 (gp)), ((PA ja), .inr (0, [.ref (PB ja), .int (nI ((PL ja).length))])), ((PB ja), eI g 144 (PF ja))] s.heap := hP
    refine lv_iload_n hx hb d_J_has_5 rfl (lv_at hl 2 rfl) ?_
    refine lv_iload_n hx hb d_J_has_6 rfl (lv_at hl 3 rfl) ?_
    refine lv_iload hx hb d_J_has_7 (lv_at hl 4 rfl) ?_
    refine va_calli (va_runVN (As := [.int (x), .int (y), .int (zz)]) (rest := []) ⟨hx, hb, hml, hown, htB⟩ (p_S_holds l g z _ (PA ja) (PB ja) ((PL ja).length) (PF ja) (x) (y) (zz)) ⟨va_cnB 3 htB g_S_holds rfl rfl rfl (ha.2.1 _ nb_24) (htB _ kw_2) (by decide +kernel) ⟨by decide, by decide⟩, htB _ kw_405, htB _ ks_0_14⟩ (pre_V hS hz ha (va_recv ha.1 hP (ci := 0) (q0 := 2) rfl rfl) ⟨va_pair (hP 2 _ rfl) (hP 3 _ rfl), by omega⟩) rfl rfl hl.1 rfl (lv_room (Nat.le_of_ble_eq_true rfl)) d_J_has_9 ⟨by decide, by decide⟩) hS (fun q _ h => h.elim) (fun q h => h.elim) (fun r_2 u t H1 locs ht hvm hw hB hz1 hk1 hS => ?_)
    obtain rfl := hB.symm.trans ht
    subst hw
    by_cases c_3 : anyB (fun u => inB (PF ja) (u * 6) (x) (y) (zz)) ((PL ja).length) = true
    · rw [if_pos c_3]
      exact vx_ret (W.widen (k := 1) (n := 6) (Nat.le_of_ble_eq_true rfl) (Nat.le_of_ble_eq_true rfl) (W.zret (v := (nI (1))) hx hb hr (by decide) (fun t ht hW => ⟨⟨(nI (1)), (), rfl, by rw [hsF_0 hja hnp, ← hRja.2.2, ← anyB_L (PF ja) 0 x y zz (fun u => u * 6) (fun u => by omega), if_pos c_3], ht⟩, hS.F ht⟩) hS.2.2 d_J_has_12))
    · rw [if_neg c_3]
      exact vx_ret (W.widen (k := 1) (n := 6) (Nat.le_of_ble_eq_true rfl) (Nat.le_of_ble_eq_true rfl) (W.zret (v := (nI (0))) hx hb hr (by decide) (fun t ht hW => ⟨⟨(nI (0)), (), rfl, by rw [hsF_0 hja hnp, ← hRja.2.2, ← anyB_L (PF ja) 0 x y zz (fun u => u * 6) (fun u => by omega), if_neg c_3], ht⟩, hS.F ht⟩) hS.2.2 d_J_has_12))
set_option maxHeartbeats 4000000 in
set_option maxRecDepth 100000 in
theorem x_J_overlap (l : Launch) (hlt : l.stackTraces = false) (g : gT) (z : Nat) (H0 : Heap) (h : Nat) (fs : List Value) (pa np : Nat) (gp : Nat → Option Nat) (PA PB : Nat → Nat) (PF : Nat → Nat → Int32) (PL : Nat → List Bx) (v v2 : Int32) : vx_Met l y_J_overlap w_J_overlap ({ frames := 7, cells := 3, slots := 18, locals := 103 }) (va_Pc [.ref h, .int (v), .int (v2)] (pB g z H0 (va_P g.1 cls [(h, .inr (1, fs)), (pa, ePS g 8 gp)] H0 ∧ fs[0]? = some (.ref pa) ∧ pP g H0 np gp PA PB PF PL))) (va_Ql (fun (rr : Int64) (_ : Unit) => twF ovL np PL v v2 = (0, rr)) (fun _ t => t.heap = H0) nA) (xX (fun E => E = E_IOB ∧ (twF ovL np PL v v2).1 = 1 ∨ E = E_IAE ∧ (twF ovL np PL v v2).1 = 2) H0) 3 18 nA := by
  refine vx_ofW (cc := c_J_overlap) (maxL := 5) (ret := (some .long)) (by decide) rfl ?_
  intro p e s m args below meth c s₁ B hml htab hv
  obtain ⟨rfl, hH0, ha, hP, hf0, hnp, hg1, hg2, hgp⟩ := hv
  have hx := B.exec
  have hb := B.bytes
  have hr := B.returns
  have htB : ∀ w ∈ tB, w.before _ s = true := fun w h => atoms_spec (ws := w_J_overlap) B.pre w (List.mem_cons_of_mem _ h)
  have hown : s.vm.findClass "JointSolids" = some m.cls := findClass_of_methodNamed B.named
  have hlocks := B.notSynchronized
  subst hH0
  have hz : ∀ q, nA q → z ≤ q := nA_z
  have hS : va_S nA s.heap s.heap [] := va_S.rf
  have hl := lv_entry ([.ref h, .int (v), .int (v2)]) (n := 5) (Nat.le_of_ble_eq_true rfl)
  rw [lg_entry_eq]
  generalize (lg_sl ([.ref h, .int (v), .int (v2)]) ++ List.replicate (5 - (lg_sl ([.ref h, .int (v), .int (v2)])).length) Slot.unset).toArray = ls at hl ⊢
  have hl : lv_has ls 5 [(0, .ref h), (1, .int (v)), (2, .int (v2))] := hl
  refine lv_aload_n hx hb d_J_overlap_0 rfl (lv_at hl 0 rfl) ?_
  refine lv_iload_n hx hb d_J_overlap_1 rfl (lv_at hl 1 rfl) ?_
  refine vx_callr (vx_runV (As := [.int (v)]) (rest := []) ⟨hx, hb, hml, hown, htB⟩ (x_J_solidOf l hlt g z _ h fs pa gp (v)) (cwV 1 htB (gV kw_87 kw_89 ks_0_0 kw_1 g_J_solidOf) rfl rfl rfl (by decide +kernel) ⟨Nat.le_of_ble_eq_true rfl, Nat.le_of_ble_eq_true rfl⟩) (pre_V hS hz ha (va_recv ha.1 hP (ci := 1) (q0 := 0) rfl rfl) ⟨va_pair (hP 0 _ rfl) (hP 1 _ rfl), hf0⟩) rfl rfl hl.1 rfl (lv_room (Nat.le_of_ble_eq_true rfl)) d_J_overlap_2 ⟨Nat.le_of_ble_eq_true rfl, Nat.le_of_ble_eq_true rfl⟩) hS (fun q _ h => h.elim) (fun q h => h.elim) (fun q h1 h2 => absurd h1 (Nat.not_lt.mpr h2)) (fun E ce q9 u t H1 locs ht hal hpx hBX hsz hk hS hce hcv hcl => ?_) (fun r_1 u t H1 locs ht hvm hw hB hz1 hk1 hS => ?_)
  · obtain ⟨hE, hkp⟩ := hBX
    exact vx_out (fun x h => (htab x h).elim) hlocks hce hcv hcl (fun t2 ht2 hal2 => ⟨(), trivial, ⟨Or.inl ⟨hE.1, by rw [twF_1 (Or.inl (gp_none hnp (by decide) hg1 hE.2))]⟩, kpt.mv (ht.trans ht2.symm) hkp⟩, (kpt.mv (ht.trans ht2.symm) hkp).1, fun q hq _ => (kpt.mv (ht.trans ht2.symm) hkp).2 q hq⟩) hS.2.2 (Nat.le_of_ble_eq_true rfl) (Nat.le_of_ble_eq_true rfl)
  · obtain ⟨hans, hB⟩ := hB
    obtain rfl := hB.symm.trans ht
    obtain ⟨ja, hja, rfl, rfl⟩ := gp_some hg1 hg2 hans
    obtain ⟨hPja, hRja, hKja⟩ := hgp ja hja
    have hLja := hRja.2.1
    have hP := va_app hP hPja
    have hP : va_P g.1 cls [(h, .inr (1, fs)), (pa, ePS g 8 (gp)), ((PA ja), .inr (0, [.ref (PB ja), .int (nI ((PL ja).length))])), ((PB ja), eI g 144 (PF ja))] s.heap := hP
    refine lv_astore_n (lv' := [(3, .ref (PA ja)), (0, .ref h), (1, .int (nI (ja))), (2, .int (v2))]) hx hb d_J_overlap_5 rfl hl (by decide) rfl (fun ls hl => ?_)
    refine lv_aload_n hx hb d_J_overlap_6 rfl (lv_at hl 1 rfl) ?_
    refine lv_iload_n hx hb d_J_overlap_7 rfl (lv_at hl 3 rfl) ?_
    refine vx_callr (vx_runV (As := [.int (v2)]) (rest := []) ⟨hx, hb, hml, hown, htB⟩ (x_J_solidOf l hlt g z _ h fs pa gp (v2)) (cwV 1 htB (gV kw_87 kw_89 ks_0_0 kw_1 g_J_solidOf) rfl rfl rfl (by decide +kernel) ⟨Nat.le_of_ble_eq_true rfl, Nat.le_of_ble_eq_true rfl⟩) (pre_V hS hz ha (va_recv ha.1 hP (ci := 1) (q0 := 0) rfl rfl) ⟨va_pair (hP 0 _ rfl) (hP 1 _ rfl), hf0⟩) rfl rfl hl.1 rfl (lv_room (Nat.le_of_ble_eq_true rfl)) d_J_overlap_8 ⟨Nat.le_of_ble_eq_true rfl, Nat.le_of_ble_eq_true rfl⟩) hS (fun q _ h => h.elim) (fun q h => h.elim) (fun q h1 h2 => absurd h1 (Nat.not_lt.mpr h2)) (fun E ce q9 u t H1 locs ht hal hpx hBX hsz hk hS hce hcv hcl => ?_) (fun r_2 u t H1 locs ht hvm hw hB hz1 hk1 hS => ?_)
    · obtain ⟨hE, hkp⟩ := hBX
      exact vx_out (fun x h => (htab x h).elim) hlocks hce hcv hcl (fun t2 ht2 hal2 => ⟨(), trivial, ⟨Or.inl ⟨hE.1, by rw [twF_1 (Or.inr (gp_none hnp (by decide) hg1 hE.2))]⟩, kpt.mv (ht.trans ht2.symm) hkp⟩, (kpt.mv (ht.trans ht2.symm) hkp).1, fun q hq _ => (kpt.mv (ht.trans ht2.symm) hkp).2 q hq⟩) hS.2.2 (Nat.le_of_ble_eq_true rfl) (Nat.le_of_ble_eq_true rfl)
    · obtain ⟨hans, hB⟩ := hB
      obtain rfl := hB.symm.trans ht
      obtain ⟨jb, hjb, rfl, rfl⟩ := gp_some hg1 hg2 hans
      obtain ⟨hPjb, hRjb, hKjb⟩ := hgp jb hjb
      have hLjb := hRjb.2.1
      have hP := va_app hP hPjb
      have hP : va_P g.1 cls [(h, .inr (1, fs)), (pa, ePS g 8 (gp)), ((PA ja), .inr (0, [.ref (PB ja), .int (nI ((PL ja).length))])), ((PB ja), eI g 144 (PF ja)), ((PA jb), .inr (0, [.ref (PB jb), .int (nI ((PL jb).length))])), ((PB jb), eI g 144 (PF jb))] s.heap := hP
      refine lv_astore (lv' := [(4, .ref (PA jb)), (3, .ref (PA ja)), (0, .ref h), (1, .int (nI (ja))), (2, .int (nI (jb)))]) hx hb d_J_overlap_11 hl (by decide) rfl (fun ls hl => ?_)
      refine lv_iload_n hx hb d_J_overlap_13 rfl (lv_at hl 3 rfl) ?_
      refine lv_iload_n hx hb d_J_overlap_14 rfl (lv_at hl 4 rfl) ?_
      refine vx_callv (vx_runS (As := [.int (nI (ja)), .int (nI (jb))]) (rest := []) ⟨hx, hb, hml, hown, htB⟩ (x_J_needTwo l hlt g z _ (nI (ja)) (nI (jb))) (va_cwS 2 htB (gS kw_292 kw_293 kw_1 g_J_needTwo) rfl rfl rfl (by decide +kernel) ⟨Nat.le_of_ble_eq_true rfl, Nat.le_of_ble_eq_true rfl⟩) (pre_S hS hz ha trivial) rfl rfl hl.1 rfl (lv_room (Nat.le_of_ble_eq_true rfl)) d_J_overlap_15 ⟨Nat.le_of_ble_eq_true rfl, Nat.le_of_ble_eq_true rfl⟩) hS (fun q _ h => h.elim) (fun q h => h.elim) (fun q h1 h2 => absurd h1 (Nat.not_lt.mpr h2)) (fun E ce q9 u t H1 locs ht hal hpx hBX hsz hk hS hce hcv hcl => ?_) (fun u t H1 locs ht hvm hw hB hz1 hk1 hS => ?_)
      · obtain ⟨hE, hkp⟩ := hBX
        exact vx_out (fun x h => (htab x h).elim) hlocks hce hcv hcl (fun t2 ht2 hal2 => ⟨(), trivial, ⟨Or.inr ⟨hE.1, by rw [twF_2 (no2 hnp hja hjb) hE.2]⟩, kpt.mv (ht.trans ht2.symm) hkp⟩, (kpt.mv (ht.trans ht2.symm) hkp).1, fun q hq _ => (kpt.mv (ht.trans ht2.symm) hkp).2 q hq⟩) hS.2.2 (Nat.le_of_ble_eq_true rfl) (Nat.le_of_ble_eq_true rfl)
      · obtain rfl := hB.symm.trans ht
        have hne := hw
        refine lv_aload_n hx hb d_J_overlap_18 rfl (lv_at hl 1 rfl) ?_
        refine lv_aload hx hb d_J_overlap_19 (lv_at hl 0 rfl) ?_
        refine va_calll (va_runS (As := [.ref (PA ja), .ref (PA jb)]) (rest := []) ⟨hx, hb, hml, hown, htB⟩ (p_J_volumeOfBoth l g z _ (PA ja) (PB ja) ((PL ja).length) (PA jb) (PB jb) ((PL jb).length) (PF ja) (PF jb)) (va_cwS 2 htB (gS kw_159 kw_160 kw_1 g_J_volumeOfBoth) rfl rfl rfl (by decide +kernel) ⟨by decide, by decide⟩) (pre_S hS hz ha ⟨va_app (va_pair (hP 2 _ rfl) (hP 3 _ rfl)) (va_pair (hP 4 _ rfl) (hP 5 _ rfl)), by omega, by omega⟩) rfl rfl hl.1 rfl (lv_room (Nat.le_of_ble_eq_true rfl)) d_J_overlap_21 ⟨by decide, by decide⟩) hS (fun q _ h => h.elim) (fun q h => h.elim) (fun r_4 u t H1 locs ht hvm hw hB hz1 hk1 hS => ?_)
        obtain rfl := hB.symm.trans ht
        subst hw
        exact vx_ret (W.widen (k := 3) (n := 18) (Nat.le_of_ble_eq_true rfl) (Nat.le_of_ble_eq_true rfl) (W.lret (v := (volB (PF ja) ((PL ja).length) (PF jb) ((PL jb).length))) hx hb hr (fun t ht hW => ⟨⟨(volB (PF ja) ((PL ja).length) (PF jb) ((PL jb).length)), (), rfl, by rw [twF_0 hnp hja hjb hne, volB_L, hRja.2.2, hRjb.2.2], ht⟩, hS.F ht⟩) hS.2.2 d_J_overlap_24))
set_option maxHeartbeats 4000000 in
set_option maxRecDepth 100000 in
theorem x_J_touch (l : Launch) (hlt : l.stackTraces = false) (g : gT) (z : Nat) (H0 : Heap) (h : Nat) (fs : List Value) (pa np : Nat) (gp : Nat → Option Nat) (PA PB : Nat → Nat) (PF : Nat → Nat → Int32) (PL : Nat → List Bx) (v v2 : Int32) : vx_Met l y_J_touch w_J_touch ({ frames := 7, cells := 3, slots := 18, locals := 103 }) (va_Pc [.ref h, .int (v), .int (v2)] (pB g z H0 (va_P g.1 cls [(h, .inr (1, fs)), (pa, ePS g 8 gp)] H0 ∧ fs[0]? = some (.ref pa) ∧ pP g H0 np gp PA PB PF PL))) (va_Ql (fun (rr : Int64) (_ : Unit) => twF toL np PL v v2 = (0, rr)) (fun _ t => t.heap = H0) nA) (xX (fun E => E = E_IOB ∧ (twF toL np PL v v2).1 = 1 ∨ E = E_IAE ∧ (twF toL np PL v v2).1 = 2) H0) 3 18 nA := by
  refine vx_ofW (cc := c_J_touch) (maxL := 5) (ret := (some .long)) (by decide) rfl ?_
  intro p e s m args below meth c s₁ B hml htab hv
  obtain ⟨rfl, hH0, ha, hP, hf0, hnp, hg1, hg2, hgp⟩ := hv
  have hx := B.exec
  have hb := B.bytes
  have hr := B.returns
  have htB : ∀ w ∈ tB, w.before _ s = true := fun w h => atoms_spec (ws := w_J_touch) B.pre w (List.mem_cons_of_mem _ h)
  have hown : s.vm.findClass "JointSolids" = some m.cls := findClass_of_methodNamed B.named
  have hlocks := B.notSynchronized
  subst hH0
  have hz : ∀ q, nA q → z ≤ q := nA_z
  have hS : va_S nA s.heap s.heap [] := va_S.rf
  have hl := lv_entry ([.ref h, .int (v), .int (v2)]) (n := 5) (Nat.le_of_ble_eq_true rfl)
  rw [lg_entry_eq]
  generalize (lg_sl ([.ref h, .int (v), .int (v2)]) ++ List.replicate (5 - (lg_sl ([.ref h, .int (v), .int (v2)])).length) Slot.unset).toArray = ls at hl ⊢
  have hl : lv_has ls 5 [(0, .ref h), (1, .int (v)), (2, .int (v2))] := hl
  refine lv_aload_n hx hb d_J_touch_0 rfl (lv_at hl 0 rfl) ?_
  refine lv_iload_n hx hb d_J_touch_1 rfl (lv_at hl 1 rfl) ?_
  refine vx_callr (vx_runV (As := [.int (v)]) (rest := []) ⟨hx, hb, hml, hown, htB⟩ (x_J_solidOf l hlt g z _ h fs pa gp (v)) (cwV 1 htB (gV kw_87 kw_89 ks_0_0 kw_1 g_J_solidOf) rfl rfl rfl (by decide +kernel) ⟨Nat.le_of_ble_eq_true rfl, Nat.le_of_ble_eq_true rfl⟩) (pre_V hS hz ha (va_recv ha.1 hP (ci := 1) (q0 := 0) rfl rfl) ⟨va_pair (hP 0 _ rfl) (hP 1 _ rfl), hf0⟩) rfl rfl hl.1 rfl (lv_room (Nat.le_of_ble_eq_true rfl)) d_J_touch_2 ⟨Nat.le_of_ble_eq_true rfl, Nat.le_of_ble_eq_true rfl⟩) hS (fun q _ h => h.elim) (fun q h => h.elim) (fun q h1 h2 => absurd h1 (Nat.not_lt.mpr h2)) (fun E ce q9 u t H1 locs ht hal hpx hBX hsz hk hS hce hcv hcl => ?_) (fun r_1 u t H1 locs ht hvm hw hB hz1 hk1 hS => ?_)
  · obtain ⟨hE, hkp⟩ := hBX
    exact vx_out (fun x h => (htab x h).elim) hlocks hce hcv hcl (fun t2 ht2 hal2 => ⟨(), trivial, ⟨Or.inl ⟨hE.1, by rw [twF_1 (Or.inl (gp_none hnp (by decide) hg1 hE.2))]⟩, kpt.mv (ht.trans ht2.symm) hkp⟩, (kpt.mv (ht.trans ht2.symm) hkp).1, fun q hq _ => (kpt.mv (ht.trans ht2.symm) hkp).2 q hq⟩) hS.2.2 (Nat.le_of_ble_eq_true rfl) (Nat.le_of_ble_eq_true rfl)
  · obtain ⟨hans, hB⟩ := hB
    obtain rfl := hB.symm.trans ht
    obtain ⟨ja, hja, rfl, rfl⟩ := gp_some hg1 hg2 hans
    obtain ⟨hPja, hRja, hKja⟩ := hgp ja hja
    have hLja := hRja.2.1
    have hP := va_app hP hPja
    have hP : va_P g.1 cls [(h, .inr (1, fs)), (pa, ePS g 8 (gp)), ((PA ja), .inr (0, [.ref (PB ja), .int (nI ((PL ja).length))])), ((PB ja), eI g 144 (PF ja))] s.heap := hP
    refine lv_astore_n (lv' := [(3, .ref (PA ja)), (0, .ref h), (1, .int (nI (ja))), (2, .int (v2))]) hx hb d_J_touch_5 rfl hl (by decide) rfl (fun ls hl => ?_)
    refine lv_aload_n hx hb d_J_touch_6 rfl (lv_at hl 1 rfl) ?_
    refine lv_iload_n hx hb d_J_touch_7 rfl (lv_at hl 3 rfl) ?_
    refine vx_callr (vx_runV (As := [.int (v2)]) (rest := []) ⟨hx, hb, hml, hown, htB⟩ (x_J_solidOf l hlt g z _ h fs pa gp (v2)) (cwV 1 htB (gV kw_87 kw_89 ks_0_0 kw_1 g_J_solidOf) rfl rfl rfl (by decide +kernel) ⟨Nat.le_of_ble_eq_true rfl, Nat.le_of_ble_eq_true rfl⟩) (pre_V hS hz ha (va_recv ha.1 hP (ci := 1) (q0 := 0) rfl rfl) ⟨va_pair (hP 0 _ rfl) (hP 1 _ rfl), hf0⟩) rfl rfl hl.1 rfl (lv_room (Nat.le_of_ble_eq_true rfl)) d_J_touch_8 ⟨Nat.le_of_ble_eq_true rfl, Nat.le_of_ble_eq_true rfl⟩) hS (fun q _ h => h.elim) (fun q h => h.elim) (fun q h1 h2 => absurd h1 (Nat.not_lt.mpr h2)) (fun E ce q9 u t H1 locs ht hal hpx hBX hsz hk hS hce hcv hcl => ?_) (fun r_2 u t H1 locs ht hvm hw hB hz1 hk1 hS => ?_)
    · obtain ⟨hE, hkp⟩ := hBX
      exact vx_out (fun x h => (htab x h).elim) hlocks hce hcv hcl (fun t2 ht2 hal2 => ⟨(), trivial, ⟨Or.inl ⟨hE.1, by rw [twF_1 (Or.inr (gp_none hnp (by decide) hg1 hE.2))]⟩, kpt.mv (ht.trans ht2.symm) hkp⟩, (kpt.mv (ht.trans ht2.symm) hkp).1, fun q hq _ => (kpt.mv (ht.trans ht2.symm) hkp).2 q hq⟩) hS.2.2 (Nat.le_of_ble_eq_true rfl) (Nat.le_of_ble_eq_true rfl)
    · obtain ⟨hans, hB⟩ := hB
      obtain rfl := hB.symm.trans ht
      obtain ⟨jb, hjb, rfl, rfl⟩ := gp_some hg1 hg2 hans
      obtain ⟨hPjb, hRjb, hKjb⟩ := hgp jb hjb
      have hLjb := hRjb.2.1
      have hP := va_app hP hPjb
      have hP : va_P g.1 cls [(h, .inr (1, fs)), (pa, ePS g 8 (gp)), ((PA ja), .inr (0, [.ref (PB ja), .int (nI ((PL ja).length))])), ((PB ja), eI g 144 (PF ja)), ((PA jb), .inr (0, [.ref (PB jb), .int (nI ((PL jb).length))])), ((PB jb), eI g 144 (PF jb))] s.heap := hP
      refine lv_astore (lv' := [(4, .ref (PA jb)), (3, .ref (PA ja)), (0, .ref h), (1, .int (nI (ja))), (2, .int (nI (jb)))]) hx hb d_J_touch_11 hl (by decide) rfl (fun ls hl => ?_)
      refine lv_iload_n hx hb d_J_touch_13 rfl (lv_at hl 3 rfl) ?_
      refine lv_iload_n hx hb d_J_touch_14 rfl (lv_at hl 4 rfl) ?_
      refine vx_callv (vx_runS (As := [.int (nI (ja)), .int (nI (jb))]) (rest := []) ⟨hx, hb, hml, hown, htB⟩ (x_J_needTwo l hlt g z _ (nI (ja)) (nI (jb))) (va_cwS 2 htB (gS kw_292 kw_293 kw_1 g_J_needTwo) rfl rfl rfl (by decide +kernel) ⟨Nat.le_of_ble_eq_true rfl, Nat.le_of_ble_eq_true rfl⟩) (pre_S hS hz ha trivial) rfl rfl hl.1 rfl (lv_room (Nat.le_of_ble_eq_true rfl)) d_J_touch_15 ⟨Nat.le_of_ble_eq_true rfl, Nat.le_of_ble_eq_true rfl⟩) hS (fun q _ h => h.elim) (fun q h => h.elim) (fun q h1 h2 => absurd h1 (Nat.not_lt.mpr h2)) (fun E ce q9 u t H1 locs ht hal hpx hBX hsz hk hS hce hcv hcl => ?_) (fun u t H1 locs ht hvm hw hB hz1 hk1 hS => ?_)
      · obtain ⟨hE, hkp⟩ := hBX
        exact vx_out (fun x h => (htab x h).elim) hlocks hce hcv hcl (fun t2 ht2 hal2 => ⟨(), trivial, ⟨Or.inr ⟨hE.1, by rw [twF_2 (no2 hnp hja hjb) hE.2]⟩, kpt.mv (ht.trans ht2.symm) hkp⟩, (kpt.mv (ht.trans ht2.symm) hkp).1, fun q hq _ => (kpt.mv (ht.trans ht2.symm) hkp).2 q hq⟩) hS.2.2 (Nat.le_of_ble_eq_true rfl) (Nat.le_of_ble_eq_true rfl)
      · obtain rfl := hB.symm.trans ht
        have hne := hw
        refine lv_aload_n hx hb d_J_touch_18 rfl (lv_at hl 1 rfl) ?_
        refine lv_aload hx hb d_J_touch_19 (lv_at hl 0 rfl) ?_
        refine va_calll (va_runS (As := [.ref (PA ja), .ref (PA jb)]) (rest := []) ⟨hx, hb, hml, hown, htB⟩ (p_J_areaOfBoth l g z _ (PA ja) (PB ja) ((PL ja).length) (PA jb) (PB jb) ((PL jb).length) (PF ja) (PF jb)) (va_cwS 2 htB (gS kw_390 kw_391 kw_1 g_J_areaOfBoth) rfl rfl rfl (by decide +kernel) ⟨by decide, by decide⟩) (pre_S hS hz ha ⟨va_app (va_pair (hP 2 _ rfl) (hP 3 _ rfl)) (va_pair (hP 4 _ rfl) (hP 5 _ rfl)), by omega, by omega⟩) rfl rfl hl.1 rfl (lv_room (Nat.le_of_ble_eq_true rfl)) d_J_touch_21 ⟨by decide, by decide⟩) hS (fun q _ h => h.elim) (fun q h => h.elim) (fun r_4 u t H1 locs ht hvm hw hB hz1 hk1 hS => ?_)
        obtain rfl := hB.symm.trans ht
        subst hw
        exact vx_ret (W.widen (k := 3) (n := 18) (Nat.le_of_ble_eq_true rfl) (Nat.le_of_ble_eq_true rfl) (W.lret (v := (arB (PF ja) ((PL ja).length) (PF jb) ((PL jb).length))) hx hb hr (fun t ht hW => ⟨⟨(arB (PF ja) ((PL ja).length) (PF jb) ((PL jb).length)), (), rfl, by rw [twF_0 hnp hja hjb hne, arB_L, hRja.2.2, hRjb.2.2], ht⟩, hS.F ht⟩) hS.2.2 d_J_touch_24))
