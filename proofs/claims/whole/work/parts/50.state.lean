/-! Weaker contracts out of stronger ones; worlds in another order. -/
theorem met_cq {l : Launch} {y : MethodName} {ws : List Cond} {rm : Room} {Pc Pc' : Array Value → State → Prop} {Qc Qc' : Array Value → State → Outcome → State → Prop} {mc ms : Nat} {free free' : Addr → Prop} (h : Met l y ws rm Pc Qc mc ms free) (hp : ∀ a s, Pc' a s → Pc a s) (hq : ∀ a s o t, Pc' a s → Qc a s o t → Qc' a s o t) (hf : ∀ q, free q → free' q) : Met l y ws rm Pc' Qc' mc ms free' := by
  intro p e ha hc hk s m args below hfr hap hP hK
  obtain ⟨n, o, h1, h2, h3, h4, L, h5, h6⟩ := h p e ha hc hk s m args below hfr hap (hp _ _ hP) hK
  exact ⟨n, o, h1, h2, h3, hq _ _ _ _ hP h4, L, h5, fun q hq => hf _ (h6 q hq)⟩
theorem vx_cq {l : Launch} {y : MethodName} {ws : List Cond} {rm : Room} {Pc Pc' : Array Value → State → Prop} {Qc Qc' : Array Value → State → Outcome → State → Prop} {XC XC' : String → State → State → Prop} {mc ms : Nat} {free free' : Addr → Prop} (h : vx_Met l y ws rm Pc Qc XC mc ms free) (hp : ∀ a s, Pc' a s → Pc a s) (hq : ∀ a s o t, Pc' a s → Qc a s o t → Qc' a s o t) (hx : ∀ a s E t, Pc' a s → XC E s t → XC' E s t) (hf : ∀ q, free q → free' q) : vx_Met l y ws rm Pc' Qc' XC' mc ms free' := by
  intro p e ha hc hk s m args below hfr hap hP hK
  obtain ⟨n, o, h1, h2, h3, h4⟩ := h p e ha hc hk s m args below hfr hap (hp _ _ hP) hK
  refine ⟨n, o, h1, h2, h3, ?_⟩
  rcases h4 with ⟨h4, L, h5, h6⟩ | ⟨q, h4, E, ce, L, k1, k2, k3, k4, k5, k6, k7⟩
  · exact Or.inl ⟨hq _ _ _ _ hP h4, L, h5, fun q hq => hf _ (h6 q hq)⟩
  · exact Or.inr ⟨q, h4, E, ce, L, hx _ _ _ _ hP k1, k2, k3, k4, k5, k6, fun z hz => hf _ (k7 z hz)⟩
theorem perm_ix {α : Type} {ws ws' : List α} (is : List Nat) (h1 : is.Perm (List.range ws.length)) (h2 : is.map (fun i => ws[i]?) = ws'.map some) : ws'.Perm ws := by
  have e : ∀ l : List α, (List.range l.length).map (fun i => l[i]?) = l.map some := fun l => by
    apply List.ext_getElem
    · simp
    · intro i h3 h4; simp
  have f : ∀ l : List α, (l.map some).filterMap id = l := fun l => by
    induction l with
    | nil => rfl
    | cons a l ih => simp
  have h3 : (ws'.map some).Perm (ws.map some) := by rw [← h2, ← e ws]; exact h1.map _
  have h4 := h3.filterMap id
  rw [f, f] at h4
  exact h4
/-- behind a call that had the cells X: the others are as they were -/
theorem jn {A0 : Nat → Prop} {D : va_G} {cl : List vw_C} {ws X Y X1 : va_W} {H H1 : Heap} (hp : ws.Perm (X ++ Y)) (hP : va_P D cl ws H) (hD : va_D A0 ws) (hk : ∀ q : Nat, q < H.size → ¬ va_A X H.size q → H1[q]? = H[q]?) (hF : ∀ q, va_A X H.size q → A0 q) (hP1 : va_P D cl X1 H1) (hD1 : va_D (va_A X H.size) X1) : va_P D cl (X1 ++ Y) H1 ∧ va_D A0 (X1 ++ Y) := by
  have hPp := va_P_perm hP hp.symm
  have hDp := va_D_perm hD hp.symm
  have hlt : ∀ q ∈ Y, q.1 < H.size := fun q hq => (va_P_at hPp (List.mem_append_right _ hq)).lt
  rw [va_D_iff] at hDp
  obtain ⟨hn, hA⟩ := hDp
  rw [List.map_append, List.nodup_append] at hn
  obtain ⟨hnX, hnY, hdis⟩ := hn
  have hout : ∀ q ∈ Y, ¬ va_A X H.size q.1 := fun q hq h => by
    rcases h with ⟨k, e, h⟩ | h
    · exact hdis q.1 (List.mem_map.mpr ⟨_, List.mem_of_getElem? h, rfl⟩) q.1 (List.mem_map_of_mem hq) rfl
    · exact absurd (hlt q hq) (Nat.not_lt.mpr h)
  refine ⟨va_app hP1 (fun k q hq => ?_), ?_⟩
  · have hm := List.mem_of_getElem? hq
    have : va_P D cl [q] H := va_P_mem hPp (fun z hz => by rw [List.mem_singleton.mp hz]; exact List.mem_append_right _ hm)
    exact (va_P.kept this (fun k9 z hz => by
      have : z = q := by cases k9 with
        | zero => exact (Option.some.inj hz).symm
        | succ n => cases hz
      rw [this]; exact hk _ (hlt q hm) (hout q hm))) 0 q rfl
  · rw [va_D_iff] at hD1 ⊢
    refine ⟨?_, fun q hq => (List.mem_append.mp hq).elim (fun h => hF _ (hD1.2 q h)) (fun h => hA q (List.mem_append_right _ h))⟩
    rw [List.map_append, List.nodup_append]
    refine ⟨hD1.1, hnY, fun a ha b hb e => ?_⟩
    obtain ⟨p, hp1, rfl⟩ := List.mem_map.mp ha
    obtain ⟨q, hq1, rfl⟩ := List.mem_map.mp hb
    exact hout q hq1 (e ▸ hD1.2 p hp1)
theorem sub_A {ws X Y : va_W} (hp : ws.Perm (X ++ Y)) {n : Nat} : ∀ q, va_A X n q → va_A ws n q := fun q h => h.elim (fun ⟨k, e, h⟩ => by
  obtain ⟨i, hi⟩ := List.getElem?_of_mem (hp.mem_iff.mpr (List.mem_append_left Y (List.mem_of_getElem? h)))
  exact Or.inl ⟨i, e, hi⟩) Or.inr
theorem perm_D {A : Nat → Prop} {ws X Y : va_W} (hp : ws.Perm (X ++ Y)) (h : va_D A ws) : va_D A X := by
  have := va_D_perm h hp.symm
  rw [va_D_iff] at this ⊢
  rw [List.map_append, List.nodup_append] at this
  exact ⟨this.1.1, fun q hq => this.2 q (List.mem_append_left _ hq)⟩
theorem perm_P {D : va_G} {cl : List vw_C} {ws X Y : va_W} {H : Heap} (hp : ws.Perm (X ++ Y)) (h : va_P D cl ws H) : va_P D cl X H := va_P_mem h fun q hq => hp.mem_iff.mpr (List.mem_append_left _ hq)
/-! The state that both sides show: parts, stocks, lists, clearance, rows, joints. -/
abbrev sT : Type := Nat × (Nat → Bx) × (Nat → List Bx) × Int32 × (Nat → Int32) × Nat × (Nat → kT)
abbrev oT : Type := Nat × Int64 × sT
def sOk (σ : sT) : Prop := σ.1 ≤ 8 ∧ σ.2.2.2.2.2.1 ≤ 12 ∧ (0 ≤ σ.2.2.2.1.toInt ∧ σ.2.2.2.1.toInt ≤ 100) ∧ (∀ j, j < σ.1 → okB (σ.2.1 j) ∧ (σ.2.2.1 j).length ≤ 24 ∧ okL (σ.2.2.1 j)) ∧ kN σ.2.2.2.2.2.1 σ.1 σ.2.2.2.2.2.2
def s_pieces (σ : sT) (v : Int32) : oT := ((pcF σ.1 σ.2.2.1 v).1, (pcF σ.1 σ.2.2.1 v).2.toInt64, σ)
def s_corner (σ : sT) (v pv kv : Int32) : oT := ((coF σ.1 σ.2.2.1 v pv kv).1, (coF σ.1 σ.2.2.1 v pv kv).2.toInt64, σ)
def s_volume (σ : sT) (v : Int32) : oT := ((vlF σ.1 σ.2.2.1 v).1, (vlF σ.1 σ.2.2.1 v).2, σ)
def s_two (G : List Bx → List Bx → Int64) (σ : sT) (a b : Int32) : oT := ((twF G σ.1 σ.2.2.1 a b).1, (twF G σ.1 σ.2.2.1 a b).2, σ)
def s_has (σ : sT) (v x y z : Int32) : oT := ((hsF σ.1 σ.2.2.1 v x y z).1, (hsF σ.1 σ.2.2.1 v x y z).2.toInt64, σ)
def s_strength (σ : sT) (v : Int32) : oT := ((stF σ.2.2.2.2.2.1 σ.2.2.2.2.2.2 σ.2.2.1 σ.2.2.2.2.1 v).1, (stF σ.2.2.2.2.2.1 σ.2.2.2.2.2.2 σ.2.2.1 σ.2.2.2.2.1 v).2, σ)
def s_about (σ : sT) (v w : Int32) : oT := ((abF σ.2.2.2.2.2.1 σ.2.2.2.2.2.2 v w).1, (abF σ.2.2.2.2.2.1 σ.2.2.2.2.2.2 v w).2, σ)
def s_clear (σ : sT) (v : Int32) : oT := if outI v (nI 0) (nI 100) then (1, 0, σ) else (0, 0, σ.1, σ.2.1, σ.2.2.1, v, σ.2.2.2.2)
def s_row (σ : sT) (kv v : Int32) : oT := if noP kv 5 then (1, 0, σ) else if outI v (nI 0) (nI 10000) then (2, 0, σ) else (0, 0, σ.1, σ.2.1, σ.2.2.1, σ.2.2.2.1, upd σ.2.2.2.2.1 (nat32 kv) v, σ.2.2.2.2.2)
abbrev bx6 (x y zz w hh dd : Int32) : Bx := (x, y, zz, x + w, y + hh, zz + dd)
def s_part (σ : sT) (x y zz w hh dd : Int32) : oT := if bad6 (-1000) (nI 1000) x y zz w hh dd then (1, 0, σ) else if σ.1 = 8 then (2, 0, σ) else (0, (nI σ.1).toInt64, σ.1 + 1, va_up σ.2.1 σ.1 (bx6 x y zz w hh dd), va_up σ.2.2.1 σ.1 [bx6 x y zz w hh dd], σ.2.2.2)
def s_cut (σ : sT) (v x y zz w hh dd : Int32) : oT := if noP v σ.1 then (1, 0, σ) else if bad6 (-2000) (nI 2000) x y zz w hh dd then (2, 0, σ) else if (cutL (bx6 x y zz w hh dd) (σ.2.2.1 (nat32 v))).length ≤ 24 then
  (0, (if (σ.2.2.1 (nat32 v)).any (fun b => decide (mt b (bx6 x y zz w hh dd))) = true then nI 1 else nI 0).toInt64, σ.1, σ.2.1, va_up σ.2.2.1 (nat32 v) (cutL (bx6 x y zz w hh dd) (σ.2.2.1 (nat32 v))), σ.2.2.2) else (3, 0, σ)
def s_joint (σ : sT) (kv av bv xv wv : Int32) : oT := match jF σ.1 σ.2.2.2.2.2.1 σ.2.1 σ.2.2.1 σ.2.2.2.1 kv av bv xv wv with
  | (c, r, none) => (c, r.toInt64, σ)
  | (c, r, some (LA, LB)) => (c, r.toInt64, σ.1, σ.2.1, va_up (va_up σ.2.2.1 (nat32 av) LA) (nat32 bv) LB, σ.2.2.2.1, σ.2.2.2.2.1, σ.2.2.2.2.2.1 + 1, va_up σ.2.2.2.2.2.2 σ.2.2.2.2.2.1 (nat32 kv, nat32 av, nat32 bv, nat32 xv, sL vM (σ.2.2.1 (nat32 av)) - sL vM LA, sL vM (σ.2.2.1 (nat32 bv)) - sL vM LB))
/-! The class's cells in a state. -/
abbrev pC (g : gT) (PA PB : Nat → Nat) (PF : Nat → Nat → Int32) (PL : Nat → List Bx) (j : Nat) : va_W := [(PA j, .inr (0, [.ref (PB j), .int (nI (PL j).length)])), (PB j, eI g 144 (PF j))]
def pX (g : gT) (PA PB : Nat → Nat) (PF : Nat → Nat → Int32) (PL : Nat → List Bx) (I : List Nat) : va_W := I.flatMap (pC g PA PB PF PL)
def kX (KA : Nat → Nat) (KT : Nat → kT) (I : List Nat) : va_W := I.map fun q => (KA q, kE (KT q))
abbrev jC (g : gT) (h : Nat) (fs : List Value) (ad : Nat → Nat) (gp gk : Nat → Option Nat) (sk rw0 : Nat → Int32) (nn : Nat → Nat) (ff : Nat → Nat → Int32) : va_W :=
  [(h, .inr (1, fs)), (ad 0, ePS g 8 gp), (ad 1, eI g 48 sk), (ad 2, ePK g 12 gk), (ad 3, eI g 5 rw0), (ad 4, .inr (0, [.ref (ad 5), .int (nI (nn 1))])), (ad 5, eI g 144 (ff 5)), (ad 6, .inr (0, [.ref (ad 7), .int (nI (nn 2))])), (ad 7, eI g 144 (ff 6)), (ad 8, .inr (0, [.ref (ad 9), .int (nI (nn 0))])), (ad 9, eI g 144 (ff 2)), (ad 10, eI g 6 (ff 0)), (ad 11, eI g 6 (ff 1)), (ad 12, eI g 6 (ff 3)), (ad 13, eI g 9 (ff 4))]
def jFs (fs : List Value) (ad : Nat → Nat) (np nj : Nat) (cl : Int32) : Prop := fs.length = 14 ∧ fs[0]? = some (.ref (ad 0)) ∧ fs[1]? = some (.int (nI np)) ∧ fs[2]? = some (.ref (ad 1)) ∧ fs[3]? = some (.ref (ad 2)) ∧ fs[4]? = some (.int (nI nj)) ∧ fs[5]? = some (.ref (ad 3)) ∧ fs[6]? = some (.int cl) ∧ fs[7]? = some (.ref (ad 4)) ∧ fs[8]? = some (.ref (ad 6)) ∧ fs[9]? = some (.ref (ad 8)) ∧ fs[10]? = some (.ref (ad 10)) ∧ fs[11]? = some (.ref (ad 11)) ∧ fs[12]? = some (.ref (ad 12)) ∧ fs[13]? = some (.ref (ad 13))
/-- what else holds of the class's cells -/
def jR (σ : sT) (gp gk : Nat → Option Nat) (sk : Nat → Int32) (ff : Nat → Nat → Int32) (PA : Nat → Nat) (PF : Nat → Nat → Int32) (KA : Nat → Nat) : Prop :=
  (∀ j, j < σ.1 → gp j = some (PA j)) ∧ (∀ j, σ.1 ≤ j → j < 8 → gp j = none) ∧ (∀ j, j < σ.2.2.2.2.2.1 → gk j = some (KA j)) ∧ (∀ j, σ.2.2.2.2.2.1 ≤ j → j < 12 → gk j = none) ∧ (∀ j, j < σ.1 → gb sk (6 * j) = σ.2.1 j) ∧ (∀ j, j < σ.1 → sR (PF j) (σ.2.2.1 j).length (σ.2.2.1 j)) ∧ ff 4 0 = nI 0
def jI (g : gT) (h : Nat) (σ : sT) (ws : va_W) : Prop :=
  ∃ (fs : List Value) (ad : Nat → Nat) (gp gk : Nat → Option Nat) (sk : Nat → Int32) (nn : Nat → Nat) (ff : Nat → Nat → Int32) (PA PB : Nat → Nat) (PF : Nat → Nat → Int32) (KA : Nat → Nat),
    ws = jC g h fs ad gp gk sk σ.2.2.2.2.1 nn ff ++ (pX g PA PB PF σ.2.2.1 (List.range σ.1) ++ kX KA σ.2.2.2.2.2.2 (List.range σ.2.2.2.2.2.1)) ∧ jFs fs ad σ.1 σ.2.2.2.2.2.1 σ.2.2.2.1 ∧ jR σ gp gk sk ff PA PF KA ∧ sOk σ
theorem pX_in {g : gT} {PA PB : Nat → Nat} {PF : Nat → Nat → Int32} {PL : Nat → List Bx} {I : List Nat} {j : Nat} (h : j ∈ I) : ∀ q ∈ pC g PA PB PF PL j, q ∈ pX g PA PB PF PL I := fun q hq => List.mem_flatMap.mpr ⟨j, h, hq⟩
theorem pX_at {g : gT} {PA PB : Nat → Nat} {PF : Nat → Nat → Int32} {PL : Nat → List Bx} {I : List Nat} {j : Nat} (h : j ∈ I) : (pX g PA PB PF PL I).Perm (pC g PA PB PF PL j ++ pX g PA PB PF PL (I.erase j)) := (List.perm_cons_erase h).flatMap_right _
theorem pX_congr {g : gT} {PA PA' PB PB' : Nat → Nat} {PF PF' : Nat → Nat → Int32} {PL PL' : Nat → List Bx} {I : List Nat} (h : ∀ j ∈ I, PA j = PA' j ∧ PB j = PB' j ∧ PF j = PF' j ∧ PL j = PL' j) : pX g PA PB PF PL I = pX g PA' PB' PF' PL' I := by
  unfold pX
  induction I with
  | nil => rfl
  | cons a I ih =>
    rw [List.flatMap_cons, List.flatMap_cons, ih (fun j hj => h j (List.mem_cons_of_mem _ hj))]
    obtain ⟨e1, e2, e3, e4⟩ := h a List.mem_cons_self
    unfold pC; rw [e1, e2, e3, e4]
theorem kX_congr {KA KA' : Nat → Nat} {KT KT' : Nat → kT} {I : List Nat} (h : ∀ j ∈ I, KA j = KA' j ∧ KT j = KT' j) : kX KA KT I = kX KA' KT' I := List.map_congr_left fun j hj => by rw [(h j hj).1, (h j hj).2]
theorem jI_pP {g : gT} {h : Nat} {σ : sT} {H : Heap} {fs : List Value} {ad : Nat → Nat} {gp gk : Nat → Option Nat} {sk : Nat → Int32} {nn : Nat → Nat} {ff : Nat → Nat → Int32} {PA PB : Nat → Nat} {PF : Nat → Nat → Int32} {KA : Nat → Nat} (hP : va_P g.1 cls (jC g h fs ad gp gk sk σ.2.2.2.2.1 nn ff ++ (pX g PA PB PF σ.2.2.1 (List.range σ.1) ++ kX KA σ.2.2.2.2.2.2 (List.range σ.2.2.2.2.2.1))) H) (hR : jR σ gp gk sk ff PA PF KA) (hO : sOk σ) : pP g H σ.1 gp PA PB PF σ.2.2.1 ∧ kP g H σ.2.2.2.2.2.1 gk KA σ.2.2.2.2.2.2 := by
  refine ⟨⟨hO.1, hR.1, hR.2.1, fun j hj => ⟨va_P_mem hP (fun q hq => List.mem_append_right _ (List.mem_append_left _ (pX_in (List.mem_range.mpr hj) q hq))), hR.2.2.2.2.2.1 j hj, (hO.2.2.2.1 j hj).2.2⟩⟩, ⟨hO.2.1, hR.2.2.1, hR.2.2.2.1, fun j hj => va_P_mem hP (fun q hq => List.mem_append_right _ (List.mem_append_right _ ?_))⟩⟩
  rw [List.mem_singleton.mp hq]
  exact List.mem_map.mpr ⟨j, List.mem_range.mpr hj, rfl⟩
