/-- the parts of the reference hold lists -/
def pL (np : Nat) (f mn : Nat → Int32) (PL : Nat → List Bx) : Prop := ∀ j, j < np → mn j = nI (PL j).length ∧ (PL j).length ≤ 24 ∧ bl f (144 * j) (PL j).length = PL j
theorem cut_L {f fd md b6 : Nat → Int32} {j : Nat} {L : List Bx} {u : Nat × Nat × (Nat → Int32)} (hl : bl f (144 * j) L.length = L) (hu : u = pA (va_cpy f fd (144 * j) (144 * 0) (6 * L.length)) 0 b6 md L.length) : u.1 = (cutL (gb b6 0) L).length ∧ bl u.2.2 0 u.1 = cutL (gb b6 0) L ∧ (0 < u.2.1 ↔ ∃ b ∈ L, mt b (gb b6 0)) := by
  have h := pA_cut (fd := va_cpy f fd (144 * j) (144 * 0) (6 * L.length)) (bx := b6) (md := md) (sd := 0) L.length
  rw [← hu, bl_cpy, hl] at h
  exact ⟨by rw [← h.1, bl_len], h.1, h.2⟩
/-- storing a list back: that part holds it, the others hold what they held -/
theorem pL_store {np : Nat} {f mn fd' : Nat → Int32} {PL : Nat → List Bx} (h : pL np f mn PL) {j n : Nat} (hj : j < np) {L : List Bx} (hn : n = L.length) (hn24 : n ≤ 24) (hL : bl fd' (144 * 0) n = L) : pL np (va_cpy fd' f (144 * 0) (144 * j) (6 * n)) (upd mn j (nI n)) (fun i => if i = j then L else PL i) := by
  intro i hi
  dsimp only
  by_cases e : i = j
  · subst e
    rw [pk_us, if_pos rfl, ← hn]
    exact ⟨rfl, hn24, by rw [bl_cpy]; exact hL⟩
  · rw [pk_un e, if_neg e]
    obtain ⟨h1, h2, h3⟩ := h i hi
    refine ⟨h1, h2, ?_⟩
    rw [bl_cpy_out (by omega)]; exact h3
/-- what the reference's cut does, in lists: bad numbers, no such part, no room, or the list that is left -/
def cutQ (bad : Prop) (np : Nat) (v : Int32) (T : Bx) (fs : List Value) (f mn : Nat → Int32) (PL : Nat → List Bx) (rr : Int32) (fs' : List Value) (f' mn' : Nat → Int32) : Prop :=
  (noP v np ∧ fs' = fs.set 0 (.int (nI 1)) ∧ f' = f ∧ mn' = mn ∧ rr = nI 0) ∨ (¬ noP v np ∧ bad ∧ fs' = fs.set 0 (.int (nI 2)) ∧ f' = f ∧ mn' = mn ∧ rr = nI 0) ∨
  (∃ j : Nat, j < np ∧ v = nI j ∧ ¬ bad ∧ ((¬ (cutL T (PL j)).length ≤ 24 ∧ fs' = (fs.set 0 (.int (nI 0))).set 0 (.int (nI 3)) ∧ f' = f ∧ mn' = mn ∧ rr = nI 0) ∨
    ((cutL T (PL j)).length ≤ 24 ∧ fs' = fs.set 0 (.int (nI 0)) ∧ pL np f' mn' (fun i => if i = j then cutL T (PL j) else PL i) ∧ (rr = nI 1 ∧ (∃ b ∈ PL j, mt b T) ∨ rr = nI 0 ∧ ¬ ∃ b ∈ PL j, mt b T))))
set_option maxHeartbeats 4000000 in
set_option maxRecDepth 100000 in
theorem m_M_cut (l : Launch) (g : gT) (z : Nat) (H0 : Heap) (h : Nat) (fs : List Value) (ap am ad adm amd ab np : Nat) (f mn fd dm md bx : Nat → Int32) (PL : Nat → List Bx) (v x y zz w hh dd : Int32) : Met l y_M_cut w_M_cut ({ frames := 3, cells := 0, slots := 0, locals := 76 }) (va_Pc [.ref h, .int (v), .int (x), .int (y), .int (zz), .int (w), .int (hh), .int (dd)] (pB g z H0 (va_P g.1 cls [(h, .inr (3, fs)), (ap, eI g 1152 (f)), (am, eI g 8 (mn)), (ad, eI g 288 (fd)), (adm, eI g 2 (dm)), (amd, eI g 1008 (md)), (ab, eI g 6 (bx))] H0 ∧ va_D (zA z) [(h, .inr (3, fs)), (ap, eI g 1152 (f)), (am, eI g 8 (mn)), (ad, eI g 288 (fd)), (adm, eI g 2 (dm)), (amd, eI g 1008 (md)), (ab, eI g 6 (bx))] ∧ (fs.length = 19 ∧ fs[1]? = some (.int (nI np)) ∧ np ≤ 8 ∧ fs[3]? = some (.ref ap) ∧ fs[4]? = some (.ref am) ∧ fs[5]? = some (.ref ad) ∧ fs[6]? = some (.ref adm) ∧ fs[7]? = some (.ref amd) ∧ fs[8]? = some (.ref ab) ∧ pL np f mn PL)))) (va_Qi (fun (rr : Int32) (u : List Value × (Nat → Int32) × (Nat → Int32) × (Nat → Int32) × (Nat → Int32) × (Nat → Int32) × (Nat → Int32)) => cutQ (outI x (-2000) (nI 2000) ∨ outI y (-2000) (nI 2000) ∨ outI zz (-2000) (nI 2000) ∨ outI w (nI 1) (nI 2000) ∨ outI hh (nI 1) (nI 2000) ∨ outI dd (nI 1) (nI 2000)) np v (gb (st6 bx x y zz (x + w) (y + hh) (zz + dd)) 0) fs f mn PL rr u.1 u.2.1 u.2.2.1) (fun (u : List Value × (Nat → Int32) × (Nat → Int32) × (Nat → Int32) × (Nat → Int32) × (Nat → Int32) × (Nat → Int32)) t => va_P g.1 cls [(h, .inr (3, u.1)), (ap, eI g 1152 (u.2.1)), (am, eI g 8 (u.2.2.1)), (ad, eI g 288 (u.2.2.2.1)), (adm, eI g 2 (u.2.2.2.2.1)), (amd, eI g 1008 (u.2.2.2.2.2.1)), (ab, eI g 6 (u.2.2.2.2.2.2))] t.heap ∧ va_D (va_A [(h, .inr (3, fs)), (ap, eI g 1152 (f)), (am, eI g 8 (mn)), (ad, eI g 288 (fd)), (adm, eI g 2 (dm)), (amd, eI g 1008 (md)), (ab, eI g 6 (bx))] H0.size) [(h, .inr (3, u.1)), (ap, eI g 1152 (u.2.1)), (am, eI g 8 (u.2.2.1)), (ad, eI g 288 (u.2.2.2.1)), (adm, eI g 2 (u.2.2.2.2.1)), (amd, eI g 1008 (u.2.2.2.2.2.1)), (ab, eI g 6 (u.2.2.2.2.2.2))]) (va_A [(h, .inr (3, fs)), (ap, eI g 1152 (f)), (am, eI g 8 (mn)), (ad, eI g 288 (fd)), (adm, eI g 2 (dm)), (amd, eI g 1008 (md)), (ab, eI g 6 (bx))] H0.size)) 0 0 (va_A [(h, .inr (3, fs)), (ap, eI g 1152 (f)), (am, eI g 8 (mn)), (ad, eI g 288 (fd)), (adm, eI g 2 (dm)), (amd, eI g 1008 (md)), (ab, eI g 6 (bx))] H0.size) := by
  refine Met.ofW (cc := c_M_cut) (maxL := 10) (ret := (some .boolean)) (by decide) rfl ?_
  intro p e s m args below meth c s₁ B hml hv
  obtain ⟨rfl, hH0, ha, hP, hD0, hlen, hf1, hnp, hf3, hf4, hf5, hf6, hf7, hf8, hpl⟩ := hv
  have hx := B.exec
  have hb := B.bytes
  have hr := B.returns
  have htB : ∀ w ∈ tB, w.before _ s = true := fun w h => atoms_spec (ws := w_M_cut) B.pre w (List.mem_cons_of_mem _ h)
  have hown : s.vm.findClass "JointSolidsModel" = some m.cls := findClass_of_methodNamed B.named
  have hlocks := B.notSynchronized
  subst hH0
  have hD := hD0.self (sz := s.heap.size)
  have hz := aA_z hD0 ha.2.2.2.2.2
  generalize hAe : va_A [(h, .inr (3, fs)), (ap, eI g 1152 (f)), (am, eI g 8 (mn)), (ad, eI g 288 (fd)), (adm, eI g 2 (dm)), (amd, eI g 1008 (md)), (ab, eI g 6 (bx))] s.heap.size = A at hD hz ⊢
  have hA : ∀ q : Nat, s.heap.size ≤ q → A q := fun q h => by rw [← hAe]; exact Or.inr h
  have hS : va_S A s.heap s.heap [] := va_S.rf
  refine W.ofH hP hS (fun H locs hP hS => ?_)
  have hl := lv_entry ([.ref h, .int (v), .int (x), .int (y), .int (zz), .int (w), .int (hh), .int (dd)]) (n := 10) (Nat.le_of_ble_eq_true rfl)
  rw [lg_entry_eq]
  generalize (lg_sl ([.ref h, .int (v), .int (x), .int (y), .int (zz), .int (w), .int (hh), .int (dd)]) ++ List.replicate (10 - (lg_sl ([.ref h, .int (v), .int (x), .int (y), .int (zz), .int (w), .int (hh), .int (dd)])).length) Slot.unset).toArray = ls at hl ⊢
  have hl : lv_has ls 10 [(0, .ref h), (1, .int (v)), (2, .int (x)), (3, .int (y)), (4, .int (zz)), (5, .int (w)), (6, .int (hh)), (7, .int (dd))] := hl
  refine lv_iload_n hx hb d_M_cut_0 rfl (lv_at hl 2 rfl) ?_
  refine lv_sipush (v := ((-2000))) hx hb d_M_cut_1 (by decide) ?_
  refine lv_sipush (v := (nI (2000))) hx hb d_M_cut_4 (by decide) ?_
  refine va_calli (va_runS (As := [.int (x), .int ((-2000)), .int (nI (2000))]) (rest := []) ⟨hx, hb, hml, hown, htB⟩ (p_M_isIn l g z _ (x) ((-2000)) (nI (2000))) (va_cwS 3 htB (gS kw_509 kw_510 kw_3 g_M_isIn) rfl rfl rfl (by decide +kernel) ⟨by decide, by decide⟩) (pre_S hS hz ha trivial) rfl rfl hl.1 rfl (lv_room (Nat.le_of_ble_eq_true rfl)) d_M_cut_7 ⟨by decide, by decide⟩) hS (fun q _ h => h.elim) (fun q h => h.elim) (fun r_1 u t H1 locs ht hvm hw hB hz1 hk1 hS => ?_)
  obtain rfl := hB.symm.trans ht
  subst hw
  by_cases c_2 : outI (x) ((-2000)) (nI (2000))
  · rw [if_pos c_2]
    refine lv_if_eq (tgt := 80) hx hb d_M_cut_10 (by decide) (fun _ => ?_) (fun h => absurd h (by decide))
    refine lv_iconst (v := (nI (0))) hx hb d_M_cut_80 (by decide) ?_
    refine lv_istore (lv' := [(8, .int (nI (0))), (0, .ref h), (1, .int (v)), (2, .int (x)), (3, .int (y)), (4, .int (zz)), (5, .int (w)), (6, .int (hh)), (7, .int (dd))]) hx hb d_M_cut_81 hl (by decide) rfl (fun ls hl => ?_)
    refine lv_aload_n hx hb d_M_cut_83 rfl (lv_at hl 1 rfl) ?_
    refine lv_aload_n hx hb d_M_cut_84 rfl (lv_at hl 1 rfl) ?_
    refine lv_iload_n hx hb d_M_cut_85 rfl (lv_at hl 2 rfl) ?_
    refine va_calli (va_runV (As := [.int (v)]) (rest := [.ref h]) ⟨hx, hb, hml, hown, htB⟩ (p_M_noPart l g z _ h (fs) (np) (v)) (cwV 1 htB (gV kw_520 kw_522 ks_1_1 kw_3 g_M_noPart) rfl rfl rfl (by decide +kernel) ⟨by decide, by decide⟩) (pre_V hS hz ha (va_recv ha.1 hP (ci := 3) (q0 := 0) rfl rfl) ⟨va_one (hP 0 _ rfl), hf1⟩) rfl rfl hl.1 rfl (lv_room (Nat.le_of_ble_eq_true rfl)) d_M_cut_86 ⟨by decide, by decide⟩) hS (fun q _ h => h.elim) (fun q h => h.elim) (fun r_4 u t H1 locs ht hvm hw hB hz1 hk1 hS => ?_)
    obtain rfl := hB.symm.trans ht
    subst hw
    by_cases c_5 : noP (v) (np)
    · rw [if_pos c_5]
      refine lv_if_eq (tgt := 96) hx hb d_M_cut_89 (by decide) (fun h => absurd h (by decide)) (fun _ => ?_)
      refine lv_iconst (v := (nI (1))) hx hb d_M_cut_92 (by decide) ?_
      refine lv_goto (tgt := 106) hx hb d_M_cut_93 (by decide) ?_
      refine va_put (D := g.1) (ci := 3) (v := .int (nI (1))) (ty := .int) (C := R_M) (T := F_M) (N := 19) hx hb htB in_M t_M t_M_ok n_M hown ha.1 hP hD hS 0 rfl rfl 0 (by decide) (htB _ kw_442) (fun _ h9 => h9) rfl (by decide +kernel) rfl rfl (by rw [hlen]; decide) d_M_cut_106 (fun H locs hP hD hS => ?_)
      have hP : va_P g.1 cls [(h, .inr (3, (fs).set 0 (.int (nI (1))))), (ap, eI g 1152 (f)), (am, eI g 8 (mn)), (ad, eI g 288 (fd)), (adm, eI g 2 (dm)), (amd, eI g 1008 (md)), (ab, eI g 6 (bx))] H := hP
      have hD : va_D A [(h, .inr (3, (fs).set 0 (.int (nI (1))))), (ap, eI g 1152 (f)), (am, eI g 8 (mn)), (ad, eI g 288 (fd)), (adm, eI g 2 (dm)), (amd, eI g 1008 (md)), (ab, eI g 6 (bx))] := hD
      refine lv_aload_n hx hb d_M_cut_109 rfl (lv_at hl 1 rfl) ?_
      refine va_get (D := g.1) (ci := 3) (v := .int (nI (1))) (C := R_M) (T := F_M) (N := 19) hx hb htB in_M hown ha.1 hP 0 rfl rfl 0 (by decide) (htB _ kw_442) (fun _ h9 => h9) (gset_eq hlen (by decide)) d_M_cut_110 ?_
      refine lv_if_le (tgt := 118) hx hb d_M_cut_113 (by decide) (fun h => absurd h (by decide)) (fun _ => ?_)
      refine lv_iconst (v := (nI (0))) hx hb d_M_cut_116 (by decide) ?_
      have hP9 := hP.sub (ws' := [(h, .inr (3, (fs).set 0 (.int (nI (1))))), (ap, eI g 1152 (f)), (am, eI g 8 (mn)), (ad, eI g 288 (fd)), (adm, eI g 2 (dm)), (amd, eI g 1008 (md)), (ab, eI g 6 (bx))]) [0, 1, 2, 3, 4, 5, 6] rfl
      have hD9 := hD.sub (ws' := [(h, .inr (3, (fs).set 0 (.int (nI (1))))), (ap, eI g 1152 (f)), (am, eI g 8 (mn)), (ad, eI g 288 (fd)), (adm, eI g 2 (dm)), (amd, eI g 1008 (md)), (ab, eI g 6 (bx))]) [0, 1, 2, 3, 4, 5, 6] (by decide) rfl
      exact (W.widen (k := 0) (n := 0) (Nat.le_of_ble_eq_true rfl) (Nat.le_of_ble_eq_true rfl) (W.zret (v := (nI (0))) hx hb hr (by decide) (fun t ht hW => ⟨⟨(nI (0)), ((fs).set 0 (.int (nI (1))), f, mn, fd, dm, md, bx), rfl, Or.inl ⟨c_5, rfl, rfl, rfl, rfl⟩, by rw [ht]; exact hP9, hD9.re [h, ap, am, ad, adm, amd, ab] rfl rfl⟩, hS.F ht⟩) hS.2.2 d_M_cut_117))
    · rw [if_neg c_5]
      refine lv_if_eq (tgt := 96) hx hb d_M_cut_89 (by decide) (fun _ => ?_) (fun h => absurd h (by decide))
      refine lv_iload hx hb d_M_cut_96 (lv_at hl 0 rfl) ?_
      refine lv_if_eq (tgt := 105) hx hb d_M_cut_98 (by decide) (fun _ => ?_) (fun h => absurd h (by decide))
      refine lv_iconst (v := (nI (2))) hx hb d_M_cut_105 (by decide) ?_
      refine va_put (D := g.1) (ci := 3) (v := .int (nI (2))) (ty := .int) (C := R_M) (T := F_M) (N := 19) hx hb htB in_M t_M t_M_ok n_M hown ha.1 hP hD hS 0 rfl rfl 0 (by decide) (htB _ kw_442) (fun _ h9 => h9) rfl (by decide +kernel) rfl rfl (by rw [hlen]; decide) d_M_cut_106 (fun H locs hP hD hS => ?_)
      have hP : va_P g.1 cls [(h, .inr (3, (fs).set 0 (.int (nI (2))))), (ap, eI g 1152 (f)), (am, eI g 8 (mn)), (ad, eI g 288 (fd)), (adm, eI g 2 (dm)), (amd, eI g 1008 (md)), (ab, eI g 6 (bx))] H := hP
      have hD : va_D A [(h, .inr (3, (fs).set 0 (.int (nI (2))))), (ap, eI g 1152 (f)), (am, eI g 8 (mn)), (ad, eI g 288 (fd)), (adm, eI g 2 (dm)), (amd, eI g 1008 (md)), (ab, eI g 6 (bx))] := hD
      refine lv_aload_n hx hb d_M_cut_109 rfl (lv_at hl 1 rfl) ?_
      refine va_get (D := g.1) (ci := 3) (v := .int (nI (2))) (C := R_M) (T := F_M) (N := 19) hx hb htB in_M hown ha.1 hP 0 rfl rfl 0 (by decide) (htB _ kw_442) (fun _ h9 => h9) (gset_eq hlen (by decide)) d_M_cut_110 ?_
      refine lv_if_le (tgt := 118) hx hb d_M_cut_113 (by decide) (fun h => absurd h (by decide)) (fun _ => ?_)
      refine lv_iconst (v := (nI (0))) hx hb d_M_cut_116 (by decide) ?_
      have hP9 := hP.sub (ws' := [(h, .inr (3, (fs).set 0 (.int (nI (2))))), (ap, eI g 1152 (f)), (am, eI g 8 (mn)), (ad, eI g 288 (fd)), (adm, eI g 2 (dm)), (amd, eI g 1008 (md)), (ab, eI g 6 (bx))]) [0, 1, 2, 3, 4, 5, 6] rfl
      have hD9 := hD.sub (ws' := [(h, .inr (3, (fs).set 0 (.int (nI (2))))), (ap, eI g 1152 (f)), (am, eI g 8 (mn)), (ad, eI g 288 (fd)), (adm, eI g 2 (dm)), (amd, eI g 1008 (md)), (ab, eI g 6 (bx))]) [0, 1, 2, 3, 4, 5, 6] (by decide) rfl
      exact (W.widen (k := 0) (n := 0) (Nat.le_of_ble_eq_true rfl) (Nat.le_of_ble_eq_true rfl) (W.zret (v := (nI (0))) hx hb hr (by decide) (fun t ht hW => ⟨⟨(nI (0)), ((fs).set 0 (.int (nI (2))), f, mn, fd, dm, md, bx), rfl, Or.inr (Or.inl ⟨c_5, Or.inl c_2, rfl, rfl, rfl, rfl⟩), by rw [ht]; exact hP9, hD9.re [h, ap, am, ad, adm, amd, ab] rfl rfl⟩, hS.F ht⟩) hS.2.2 d_M_cut_117))
  · rw [if_neg c_2]
    refine lv_if_eq (tgt := 80) hx hb d_M_cut_10 (by decide) (fun h => absurd h (by decide)) (fun _ => ?_)
    refine lv_iload_n hx hb d_M_cut_13 rfl (lv_at hl 3 rfl) ?_
    refine lv_sipush (v := ((-2000))) hx hb d_M_cut_14 (by decide) ?_
    refine lv_sipush (v := (nI (2000))) hx hb d_M_cut_17 (by decide) ?_
    refine va_calli (va_runS (As := [.int (y), .int ((-2000)), .int (nI (2000))]) (rest := []) ⟨hx, hb, hml, hown, htB⟩ (p_M_isIn l g z _ (y) ((-2000)) (nI (2000))) (va_cwS 3 htB (gS kw_509 kw_510 kw_3 g_M_isIn) rfl rfl rfl (by decide +kernel) ⟨by decide, by decide⟩) (pre_S hS hz ha trivial) rfl rfl hl.1 rfl (lv_room (Nat.le_of_ble_eq_true rfl)) d_M_cut_20 ⟨by decide, by decide⟩) hS (fun q _ h => h.elim) (fun q h => h.elim) (fun r_12 u t H1 locs ht hvm hw hB hz1 hk1 hS => ?_)
    obtain rfl := hB.symm.trans ht
    subst hw
    by_cases c_13 : outI (y) ((-2000)) (nI (2000))
    · rw [if_pos c_13]
      refine lv_if_eq (tgt := 80) hx hb d_M_cut_23 (by decide) (fun _ => ?_) (fun h => absurd h (by decide))
      refine lv_iconst (v := (nI (0))) hx hb d_M_cut_80 (by decide) ?_
      refine lv_istore (lv' := [(8, .int (nI (0))), (0, .ref h), (1, .int (v)), (2, .int (x)), (3, .int (y)), (4, .int (zz)), (5, .int (w)), (6, .int (hh)), (7, .int (dd))]) hx hb d_M_cut_81 hl (by decide) rfl (fun ls hl => ?_)
      refine lv_aload_n hx hb d_M_cut_83 rfl (lv_at hl 1 rfl) ?_
      refine lv_aload_n hx hb d_M_cut_84 rfl (lv_at hl 1 rfl) ?_
      refine lv_iload_n hx hb d_M_cut_85 rfl (lv_at hl 2 rfl) ?_
      refine va_calli (va_runV (As := [.int (v)]) (rest := [.ref h]) ⟨hx, hb, hml, hown, htB⟩ (p_M_noPart l g z _ h (fs) (np) (v)) (cwV 1 htB (gV kw_520 kw_522 ks_1_1 kw_3 g_M_noPart) rfl rfl rfl (by decide +kernel) ⟨by decide, by decide⟩) (pre_V hS hz ha (va_recv ha.1 hP (ci := 3) (q0 := 0) rfl rfl) ⟨va_one (hP 0 _ rfl), hf1⟩) rfl rfl hl.1 rfl (lv_room (Nat.le_of_ble_eq_true rfl)) d_M_cut_86 ⟨by decide, by decide⟩) hS (fun q _ h => h.elim) (fun q h => h.elim) (fun r_15 u t H1 locs ht hvm hw hB hz1 hk1 hS => ?_)
      obtain rfl := hB.symm.trans ht
      subst hw
      by_cases c_16 : noP (v) (np)
      · rw [if_pos c_16]
        refine lv_if_eq (tgt := 96) hx hb d_M_cut_89 (by decide) (fun h => absurd h (by decide)) (fun _ => ?_)
        refine lv_iconst (v := (nI (1))) hx hb d_M_cut_92 (by decide) ?_
        refine lv_goto (tgt := 106) hx hb d_M_cut_93 (by decide) ?_
        refine va_put (D := g.1) (ci := 3) (v := .int (nI (1))) (ty := .int) (C := R_M) (T := F_M) (N := 19) hx hb htB in_M t_M t_M_ok n_M hown ha.1 hP hD hS 0 rfl rfl 0 (by decide) (htB _ kw_442) (fun _ h9 => h9) rfl (by decide +kernel) rfl rfl (by rw [hlen]; decide) d_M_cut_106 (fun H locs hP hD hS => ?_)
        have hP : va_P g.1 cls [(h, .inr (3, (fs).set 0 (.int (nI (1))))), (ap, eI g 1152 (f)), (am, eI g 8 (mn)), (ad, eI g 288 (fd)), (adm, eI g 2 (dm)), (amd, eI g 1008 (md)), (ab, eI g 6 (bx))] H := hP
        have hD : va_D A [(h, .inr (3, (fs).set 0 (.int (nI (1))))), (ap, eI g 1152 (f)), (am, eI g 8 (mn)), (ad, eI g 288 (fd)), (adm, eI g 2 (dm)), (amd, eI g 1008 (md)), (ab, eI g 6 (bx))] := hD
        refine lv_aload_n hx hb d_M_cut_109 rfl (lv_at hl 1 rfl) ?_
        refine va_get (D := g.1) (ci := 3) (v := .int (nI (1))) (C := R_M) (T := F_M) (N := 19) hx hb htB in_M hown ha.1 hP 0 rfl rfl 0 (by decide) (htB _ kw_442) (fun _ h9 => h9) (gset_eq hlen (by decide)) d_M_cut_110 ?_
        refine lv_if_le (tgt := 118) hx hb d_M_cut_113 (by decide) (fun h => absurd h (by decide)) (fun _ => ?_)
        refine lv_iconst (v := (nI (0))) hx hb d_M_cut_116 (by decide) ?_
        have hP9 := hP.sub (ws' := [(h, .inr (3, (fs).set 0 (.int (nI (1))))), (ap, eI g 1152 (f)), (am, eI g 8 (mn)), (ad, eI g 288 (fd)), (adm, eI g 2 (dm)), (amd, eI g 1008 (md)), (ab, eI g 6 (bx))]) [0, 1, 2, 3, 4, 5, 6] rfl
        have hD9 := hD.sub (ws' := [(h, .inr (3, (fs).set 0 (.int (nI (1))))), (ap, eI g 1152 (f)), (am, eI g 8 (mn)), (ad, eI g 288 (fd)), (adm, eI g 2 (dm)), (amd, eI g 1008 (md)), (ab, eI g 6 (bx))]) [0, 1, 2, 3, 4, 5, 6] (by decide) rfl
        exact (W.widen (k := 0) (n := 0) (Nat.le_of_ble_eq_true rfl) (Nat.le_of_ble_eq_true rfl) (W.zret (v := (nI (0))) hx hb hr (by decide) (fun t ht hW => ⟨⟨(nI (0)), ((fs).set 0 (.int (nI (1))), f, mn, fd, dm, md, bx), rfl, Or.inl ⟨c_16, rfl, rfl, rfl, rfl⟩, by rw [ht]; exact hP9, hD9.re [h, ap, am, ad, adm, amd, ab] rfl rfl⟩, hS.F ht⟩) hS.2.2 d_M_cut_117))
      · rw [if_neg c_16]
        refine lv_if_eq (tgt := 96) hx hb d_M_cut_89 (by decide) (fun _ => ?_) (fun h => absurd h (by decide))
        refine lv_iload hx hb d_M_cut_96 (lv_at hl 0 rfl) ?_
        refine lv_if_eq (tgt := 105) hx hb d_M_cut_98 (by decide) (fun _ => ?_) (fun h => absurd h (by decide))
        refine lv_iconst (v := (nI (2))) hx hb d_M_cut_105 (by decide) ?_
        refine va_put (D := g.1) (ci := 3) (v := .int (nI (2))) (ty := .int) (C := R_M) (T := F_M) (N := 19) hx hb htB in_M t_M t_M_ok n_M hown ha.1 hP hD hS 0 rfl rfl 0 (by decide) (htB _ kw_442) (fun _ h9 => h9) rfl (by decide +kernel) rfl rfl (by rw [hlen]; decide) d_M_cut_106 (fun H locs hP hD hS => ?_)
        have hP : va_P g.1 cls [(h, .inr (3, (fs).set 0 (.int (nI (2))))), (ap, eI g 1152 (f)), (am, eI g 8 (mn)), (ad, eI g 288 (fd)), (adm, eI g 2 (dm)), (amd, eI g 1008 (md)), (ab, eI g 6 (bx))] H := hP
        have hD : va_D A [(h, .inr (3, (fs).set 0 (.int (nI (2))))), (ap, eI g 1152 (f)), (am, eI g 8 (mn)), (ad, eI g 288 (fd)), (adm, eI g 2 (dm)), (amd, eI g 1008 (md)), (ab, eI g 6 (bx))] := hD
        refine lv_aload_n hx hb d_M_cut_109 rfl (lv_at hl 1 rfl) ?_
        refine va_get (D := g.1) (ci := 3) (v := .int (nI (2))) (C := R_M) (T := F_M) (N := 19) hx hb htB in_M hown ha.1 hP 0 rfl rfl 0 (by decide) (htB _ kw_442) (fun _ h9 => h9) (gset_eq hlen (by decide)) d_M_cut_110 ?_
        refine lv_if_le (tgt := 118) hx hb d_M_cut_113 (by decide) (fun h => absurd h (by decide)) (fun _ => ?_)
        refine lv_iconst (v := (nI (0))) hx hb d_M_cut_116 (by decide) ?_
        have hP9 := hP.sub (ws' := [(h, .inr (3, (fs).set 0 (.int (nI (2))))), (ap, eI g 1152 (f)), (am, eI g 8 (mn)), (ad, eI g 288 (fd)), (adm, eI g 2 (dm)), (amd, eI g 1008 (md)), (ab, eI g 6 (bx))]) [0, 1, 2, 3, 4, 5, 6] rfl
        have hD9 := hD.sub (ws' := [(h, .inr (3, (fs).set 0 (.int (nI (2))))), (ap, eI g 1152 (f)), (am, eI g 8 (mn)), (ad, eI g 288 (fd)), (adm, eI g 2 (dm)), (amd, eI g 1008 (md)), (ab, eI g 6 (bx))]) [0, 1, 2, 3, 4, 5, 6] (by decide) rfl
        exact (W.widen (k := 0) (n := 0) (Nat.le_of_ble_eq_true rfl) (Nat.le_of_ble_eq_true rfl) (W.zret (v := (nI (0))) hx hb hr (by decide) (fun t ht hW => ⟨⟨(nI (0)), ((fs).set 0 (.int (nI (2))), f, mn, fd, dm, md, bx), rfl, Or.inr (Or.inl ⟨c_16, Or.inr (Or.inl c_13), rfl, rfl, rfl, rfl⟩), by rw [ht]; exact hP9, hD9.re [h, ap, am, ad, adm, amd, ab] rfl rfl⟩, hS.F ht⟩) hS.2.2 d_M_cut_117))
    · rw [if_neg c_13]
      refine lv_if_eq (tgt := 80) hx hb d_M_cut_23 (by decide) (fun h => absurd h (by decide)) (fun _ => ?_)
      refine lv_iload hx hb d_M_cut_26 (lv_at hl 4 rfl) ?_
      refine lv_sipush (v := ((-2000))) hx hb d_M_cut_28 (by decide) ?_
      refine lv_sipush (v := (nI (2000))) hx hb d_M_cut_31 (by decide) ?_
      refine va_calli (va_runS (As := [.int (zz), .int ((-2000)), .int (nI (2000))]) (rest := []) ⟨hx, hb, hml, hown, htB⟩ (p_M_isIn l g z _ (zz) ((-2000)) (nI (2000))) (va_cwS 3 htB (gS kw_509 kw_510 kw_3 g_M_isIn) rfl rfl rfl (by decide +kernel) ⟨by decide, by decide⟩) (pre_S hS hz ha trivial) rfl rfl hl.1 rfl (lv_room (Nat.le_of_ble_eq_true rfl)) d_M_cut_34 ⟨by decide, by decide⟩) hS (fun q _ h => h.elim) (fun q h => h.elim) (fun r_23 u t H1 locs ht hvm hw hB hz1 hk1 hS => ?_)
      obtain rfl := hB.symm.trans ht
      subst hw
      by_cases c_24 : outI (zz) ((-2000)) (nI (2000))
      · rw [if_pos c_24]
        refine lv_if_eq (tgt := 80) hx hb d_M_cut_37 (by decide) (fun _ => ?_) (fun h => absurd h (by decide))
        refine lv_iconst (v := (nI (0))) hx hb d_M_cut_80 (by decide) ?_
        refine lv_istore (lv' := [(8, .int (nI (0))), (0, .ref h), (1, .int (v)), (2, .int (x)), (3, .int (y)), (4, .int (zz)), (5, .int (w)), (6, .int (hh)), (7, .int (dd))]) hx hb d_M_cut_81 hl (by decide) rfl (fun ls hl => ?_)
        refine lv_aload_n hx hb d_M_cut_83 rfl (lv_at hl 1 rfl) ?_
        refine lv_aload_n hx hb d_M_cut_84 rfl (lv_at hl 1 rfl) ?_
        refine lv_iload_n hx hb d_M_cut_85 rfl (lv_at hl 2 rfl) ?_
        refine va_calli (va_runV (As := [.int (v)]) (rest := [.ref h]) ⟨hx, hb, hml, hown, htB⟩ (p_M_noPart l g z _ h (fs) (np) (v)) (cwV 1 htB (gV kw_520 kw_522 ks_1_1 kw_3 g_M_noPart) rfl rfl rfl (by decide +kernel) ⟨by decide, by decide⟩) (pre_V hS hz ha (va_recv ha.1 hP (ci := 3) (q0 := 0) rfl rfl) ⟨va_one (hP 0 _ rfl), hf1⟩) rfl rfl hl.1 rfl (lv_room (Nat.le_of_ble_eq_true rfl)) d_M_cut_86 ⟨by decide, by decide⟩) hS (fun q _ h => h.elim) (fun q h => h.elim) (fun r_26 u t H1 locs ht hvm hw hB hz1 hk1 hS => ?_)
        obtain rfl := hB.symm.trans ht
        subst hw
        by_cases c_27 : noP (v) (np)
        · rw [if_pos c_27]
          refine lv_if_eq (tgt := 96) hx hb d_M_cut_89 (by decide) (fun h => absurd h (by decide)) (fun _ => ?_)
          refine lv_iconst (v := (nI (1))) hx hb d_M_cut_92 (by decide) ?_
          refine lv_goto (tgt := 106) hx hb d_M_cut_93 (by decide) ?_
          refine va_put (D := g.1) (ci := 3) (v := .int (nI (1))) (ty := .int) (C := R_M) (T := F_M) (N := 19) hx hb htB in_M t_M t_M_ok n_M hown ha.1 hP hD hS 0 rfl rfl 0 (by decide) (htB _ kw_442) (fun _ h9 => h9) rfl (by decide +kernel) rfl rfl (by rw [hlen]; decide) d_M_cut_106 (fun H locs hP hD hS => ?_)
          have hP : va_P g.1 cls [(h, .inr (3, (fs).set 0 (.int (nI (1))))), (ap, eI g 1152 (f)), (am, eI g 8 (mn)), (ad, eI g 288 (fd)), (adm, eI g 2 (dm)), (amd, eI g 1008 (md)), (ab, eI g 6 (bx))] H := hP
          have hD : va_D A [(h, .inr (3, (fs).set 0 (.int (nI (1))))), (ap, eI g 1152 (f)), (am, eI g 8 (mn)), (ad, eI g 288 (fd)), (adm, eI g 2 (dm)), (amd, eI g 1008 (md)), (ab, eI g 6 (bx))] := hD
          refine lv_aload_n hx hb d_M_cut_109 rfl (lv_at hl 1 rfl) ?_
          refine va_get (D := g.1) (ci := 3) (v := .int (nI (1))) (C := R_M) (T := F_M) (N := 19) hx hb htB in_M hown ha.1 hP 0 rfl rfl 0 (by decide) (htB _ kw_442) (fun _ h9 => h9) (gset_eq hlen (by decide)) d_M_cut_110 ?_
          refine lv_if_le (tgt := 118) hx hb d_M_cut_113 (by decide) (fun h => absurd h (by decide)) (fun _ => ?_)
          refine lv_iconst (v := (nI (0))) hx hb d_M_cut_116 (by decide) ?_
          have hP9 := hP.sub (ws' := [(h, .inr (3, (fs).set 0 (.int (nI (1))))), (ap, eI g 1152 (f)), (am, eI g 8 (mn)), (ad, eI g 288 (fd)), (adm, eI g 2 (dm)), (amd, eI g 1008 (md)), (ab, eI g 6 (bx))]) [0, 1, 2, 3, 4, 5, 6] rfl
          have hD9 := hD.sub (ws' := [(h, .inr (3, (fs).set 0 (.int (nI (1))))), (ap, eI g 1152 (f)), (am, eI g 8 (mn)), (ad, eI g 288 (fd)), (adm, eI g 2 (dm)), (amd, eI g 1008 (md)), (ab, eI g 6 (bx))]) [0, 1, 2, 3, 4, 5, 6] (by decide) rfl
          exact (W.widen (k := 0) (n := 0) (Nat.le_of_ble_eq_true rfl) (Nat.le_of_ble_eq_true rfl) (W.zret (v := (nI (0))) hx hb hr (by decide) (fun t ht hW => ⟨⟨(nI (0)), ((fs).set 0 (.int (nI (1))), f, mn, fd, dm, md, bx), rfl, Or.inl ⟨c_27, rfl, rfl, rfl, rfl⟩, by rw [ht]; exact hP9, hD9.re [h, ap, am, ad, adm, amd, ab] rfl rfl⟩, hS.F ht⟩) hS.2.2 d_M_cut_117))
        · rw [if_neg c_27]
          refine lv_if_eq (tgt := 96) hx hb d_M_cut_89 (by decide) (fun _ => ?_) (fun h => absurd h (by decide))
          refine lv_iload hx hb d_M_cut_96 (lv_at hl 0 rfl) ?_
          refine lv_if_eq (tgt := 105) hx hb d_M_cut_98 (by decide) (fun _ => ?_) (fun h => absurd h (by decide))
          refine lv_iconst (v := (nI (2))) hx hb d_M_cut_105 (by decide) ?_
          refine va_put (D := g.1) (ci := 3) (v := .int (nI (2))) (ty := .int) (C := R_M) (T := F_M) (N := 19) hx hb htB in_M t_M t_M_ok n_M hown ha.1 hP hD hS 0 rfl rfl 0 (by decide) (htB _ kw_442) (fun _ h9 => h9) rfl (by decide +kernel) rfl rfl (by rw [hlen]; decide) d_M_cut_106 (fun H locs hP hD hS => ?_)
          have hP : va_P g.1 cls [(h, .inr (3, (fs).set 0 (.int (nI (2))))), (ap, eI g 1152 (f)), (am, eI g 8 (mn)), (ad, eI g 288 (fd)), (adm, eI g 2 (dm)), (amd, eI g 1008 (md)), (ab, eI g 6 (bx))] H := hP
          have hD : va_D A [(h, .inr (3, (fs).set 0 (.int (nI (2))))), (ap, eI g 1152 (f)), (am, eI g 8 (mn)), (ad, eI g 288 (fd)), (adm, eI g 2 (dm)), (amd, eI g 1008 (md)), (ab, eI g 6 (bx))] := hD
          refine lv_aload_n hx hb d_M_cut_109 rfl (lv_at hl 1 rfl) ?_
          refine va_get (D := g.1) (ci := 3) (v := .int (nI (2))) (C := R_M) (T := F_M) (N := 19) hx hb htB in_M hown ha.1 hP 0 rfl rfl 0 (by decide) (htB _ kw_442) (fun _ h9 => h9) (gset_eq hlen (by decide)) d_M_cut_110 ?_
          refine lv_if_le (tgt := 118) hx hb d_M_cut_113 (by decide) (fun h => absurd h (by decide)) (fun _ => ?_)
          refine lv_iconst (v := (nI (0))) hx hb d_M_cut_116 (by decide) ?_
          have hP9 := hP.sub (ws' := [(h, .inr (3, (fs).set 0 (.int (nI (2))))), (ap, eI g 1152 (f)), (am, eI g 8 (mn)), (ad, eI g 288 (fd)), (adm, eI g 2 (dm)), (amd, eI g 1008 (md)), (ab, eI g 6 (bx))]) [0, 1, 2, 3, 4, 5, 6] rfl
          have hD9 := hD.sub (ws' := [(h, .inr (3, (fs).set 0 (.int (nI (2))))), (ap, eI g 1152 (f)), (am, eI g 8 (mn)), (ad, eI g 288 (fd)), (adm, eI g 2 (dm)), (amd, eI g 1008 (md)), (ab, eI g 6 (bx))]) [0, 1, 2, 3, 4, 5, 6] (by decide) rfl
          exact (W.widen (k := 0) (n := 0) (Nat.le_of_ble_eq_true rfl) (Nat.le_of_ble_eq_true rfl) (W.zret (v := (nI (0))) hx hb hr (by decide) (fun t ht hW => ⟨⟨(nI (0)), ((fs).set 0 (.int (nI (2))), f, mn, fd, dm, md, bx), rfl, Or.inr (Or.inl ⟨c_27, Or.inr (Or.inr (Or.inl c_24)), rfl, rfl, rfl, rfl⟩), by rw [ht]; exact hP9, hD9.re [h, ap, am, ad, adm, amd, ab] rfl rfl⟩, hS.F ht⟩) hS.2.2 d_M_cut_117))
      · rw [if_neg c_24]
        refine lv_if_eq (tgt := 80) hx hb d_M_cut_37 (by decide) (fun h => absurd h (by decide)) (fun _ => ?_)
        refine lv_iload hx hb d_M_cut_40 (lv_at hl 5 rfl) ?_
        refine lv_iconst (v := (nI (1))) hx hb d_M_cut_42 (by decide) ?_
        refine lv_sipush (v := (nI (2000))) hx hb d_M_cut_43 (by decide) ?_
        refine va_calli (va_runS (As := [.int (w), .int (nI (1)), .int (nI (2000))]) (rest := []) ⟨hx, hb, hml, hown, htB⟩ (p_M_isIn l g z _ (w) (nI (1)) (nI (2000))) (va_cwS 3 htB (gS kw_509 kw_510 kw_3 g_M_isIn) rfl rfl rfl (by decide +kernel) ⟨by decide, by decide⟩) (pre_S hS hz ha trivial) rfl rfl hl.1 rfl (lv_room (Nat.le_of_ble_eq_true rfl)) d_M_cut_46 ⟨by decide, by decide⟩) hS (fun q _ h => h.elim) (fun q h => h.elim) (fun r_34 u t H1 locs ht hvm hw hB hz1 hk1 hS => ?_)
        obtain rfl := hB.symm.trans ht
        subst hw
        by_cases c_35 : outI (w) (nI (1)) (nI (2000))
        · rw [if_pos c_35]
          refine lv_if_eq (tgt := 80) hx hb d_M_cut_49 (by decide) (fun _ => ?_) (fun h => absurd h (by decide))
          refine lv_iconst (v := (nI (0))) hx hb d_M_cut_80 (by decide) ?_
          refine lv_istore (lv' := [(8, .int (nI (0))), (0, .ref h), (1, .int (v)), (2, .int (x)), (3, .int (y)), (4, .int (zz)), (5, .int (w)), (6, .int (hh)), (7, .int (dd))]) hx hb d_M_cut_81 hl (by decide) rfl (fun ls hl => ?_)
          refine lv_aload_n hx hb d_M_cut_83 rfl (lv_at hl 1 rfl) ?_
          refine lv_aload_n hx hb d_M_cut_84 rfl (lv_at hl 1 rfl) ?_
          refine lv_iload_n hx hb d_M_cut_85 rfl (lv_at hl 2 rfl) ?_
          refine va_calli (va_runV (As := [.int (v)]) (rest := [.ref h]) ⟨hx, hb, hml, hown, htB⟩ (p_M_noPart l g z _ h (fs) (np) (v)) (cwV 1 htB (gV kw_520 kw_522 ks_1_1 kw_3 g_M_noPart) rfl rfl rfl (by decide +kernel) ⟨by decide, by decide⟩) (pre_V hS hz ha (va_recv ha.1 hP (ci := 3) (q0 := 0) rfl rfl) ⟨va_one (hP 0 _ rfl), hf1⟩) rfl rfl hl.1 rfl (lv_room (Nat.le_of_ble_eq_true rfl)) d_M_cut_86 ⟨by decide, by decide⟩) hS (fun q _ h => h.elim) (fun q h => h.elim) (fun r_37 u t H1 locs ht hvm hw hB hz1 hk1 hS => ?_)
          obtain rfl := hB.symm.trans ht
          subst hw
          by_cases c_38 : noP (v) (np)
          · rw [if_pos c_38]
            refine lv_if_eq (tgt := 96) hx hb d_M_cut_89 (by decide) (fun h => absurd h (by decide)) (fun _ => ?_)
            refine lv_iconst (v := (nI (1))) hx hb d_M_cut_92 (by decide) ?_
            refine lv_goto (tgt := 106) hx hb d_M_cut_93 (by decide) ?_
            refine va_put (D := g.1) (ci := 3) (v := .int (nI (1))) (ty := .int) (C := R_M) (T := F_M) (N := 19) hx hb htB in_M t_M t_M_ok n_M hown ha.1 hP hD hS 0 rfl rfl 0 (by decide) (htB _ kw_442) (fun _ h9 => h9) rfl (by decide +kernel) rfl rfl (by rw [hlen]; decide) d_M_cut_106 (fun H locs hP hD hS => ?_)
            have hP : va_P g.1 cls [(h, .inr (3, (fs).set 0 (.int (nI (1))))), (ap, eI g 1152 (f)), (am, eI g 8 (mn)), (ad, eI g 288 (fd)), (adm, eI g 2 (dm)), (amd, eI g 1008 (md)), (ab, eI g 6 (bx))] H := hP
            have hD : va_D A [(h, .inr (3, (fs).set 0 (.int (nI (1))))), (ap, eI g 1152 (f)), (am, eI g 8 (mn)), (ad, eI g 288 (fd)), (adm, eI g 2 (dm)), (amd, eI g 1008 (md)), (ab, eI g 6 (bx))] := hD
            refine lv_aload_n hx hb d_M_cut_109 rfl (lv_at hl 1 rfl) ?_
            refine va_get (D := g.1) (ci := 3) (v := .int (nI (1))) (C := R_M) (T := F_M) (N := 19) hx hb htB in_M hown ha.1 hP 0 rfl rfl 0 (by decide) (htB _ kw_442) (fun _ h9 => h9) (gset_eq hlen (by decide)) d_M_cut_110 ?_
            refine lv_if_le (tgt := 118) hx hb d_M_cut_113 (by decide) (fun h => absurd h (by decide)) (fun _ => ?_)
            refine lv_iconst (v := (nI (0))) hx hb d_M_cut_116 (by decide) ?_
            have hP9 := hP.sub (ws' := [(h, .inr (3, (fs).set 0 (.int (nI (1))))), (ap, eI g 1152 (f)), (am, eI g 8 (mn)), (ad, eI g 288 (fd)), (adm, eI g 2 (dm)), (amd, eI g 1008 (md)), (ab, eI g 6 (bx))]) [0, 1, 2, 3, 4, 5, 6] rfl
            have hD9 := hD.sub (ws' := [(h, .inr (3, (fs).set 0 (.int (nI (1))))), (ap, eI g 1152 (f)), (am, eI g 8 (mn)), (ad, eI g 288 (fd)), (adm, eI g 2 (dm)), (amd, eI g 1008 (md)), (ab, eI g 6 (bx))]) [0, 1, 2, 3, 4, 5, 6] (by decide) rfl
            exact (W.widen (k := 0) (n := 0) (Nat.le_of_ble_eq_true rfl) (Nat.le_of_ble_eq_true rfl) (W.zret (v := (nI (0))) hx hb hr (by decide) (fun t ht hW => ⟨⟨(nI (0)), ((fs).set 0 (.int (nI (1))), f, mn, fd, dm, md, bx), rfl, Or.inl ⟨c_38, rfl, rfl, rfl, rfl⟩, by rw [ht]; exact hP9, hD9.re [h, ap, am, ad, adm, amd, ab] rfl rfl⟩, hS.F ht⟩) hS.2.2 d_M_cut_117))
          · rw [if_neg c_38]
            refine lv_if_eq (tgt := 96) hx hb d_M_cut_89 (by decide) (fun _ => ?_) (fun h => absurd h (by decide))
            refine lv_iload hx hb d_M_cut_96 (lv_at hl 0 rfl) ?_
            refine lv_if_eq (tgt := 105) hx hb d_M_cut_98 (by decide) (fun _ => ?_) (fun h => absurd h (by decide))
            refine lv_iconst (v := (nI (2))) hx hb d_M_cut_105 (by decide) ?_
            refine va_put (D := g.1) (ci := 3) (v := .int (nI (2))) (ty := .int) (C := R_M) (T := F_M) (N := 19) hx hb htB in_M t_M t_M_ok n_M hown ha.1 hP hD hS 0 rfl rfl 0 (by decide) (htB _ kw_442) (fun _ h9 => h9) rfl (by decide +kernel) rfl rfl (by rw [hlen]; decide) d_M_cut_106 (fun H locs hP hD hS => ?_)
            have hP : va_P g.1 cls [(h, .inr (3, (fs).set 0 (.int (nI (2))))), (ap, eI g 1152 (f)), (am, eI g 8 (mn)), (ad, eI g 288 (fd)), (adm, eI g 2 (dm)), (amd, eI g 1008 (md)), (ab, eI g 6 (bx))] H := hP
            have hD : va_D A [(h, .inr (3, (fs).set 0 (.int (nI (2))))), (ap, eI g 1152 (f)), (am, eI g 8 (mn)), (ad, eI g 288 (fd)), (adm, eI g 2 (dm)), (amd, eI g 1008 (md)), (ab, eI g 6 (bx))] := hD
            refine lv_aload_n hx hb d_M_cut_109 rfl (lv_at hl 1 rfl) ?_
            refine va_get (D := g.1) (ci := 3) (v := .int (nI (2))) (C := R_M) (T := F_M) (N := 19) hx hb htB in_M hown ha.1 hP 0 rfl rfl 0 (by decide) (htB _ kw_442) (fun _ h9 => h9) (gset_eq hlen (by decide)) d_M_cut_110 ?_
            refine lv_if_le (tgt := 118) hx hb d_M_cut_113 (by decide) (fun h => absurd h (by decide)) (fun _ => ?_)
            refine lv_iconst (v := (nI (0))) hx hb d_M_cut_116 (by decide) ?_
            have hP9 := hP.sub (ws' := [(h, .inr (3, (fs).set 0 (.int (nI (2))))), (ap, eI g 1152 (f)), (am, eI g 8 (mn)), (ad, eI g 288 (fd)), (adm, eI g 2 (dm)), (amd, eI g 1008 (md)), (ab, eI g 6 (bx))]) [0, 1, 2, 3, 4, 5, 6] rfl
            have hD9 := hD.sub (ws' := [(h, .inr (3, (fs).set 0 (.int (nI (2))))), (ap, eI g 1152 (f)), (am, eI g 8 (mn)), (ad, eI g 288 (fd)), (adm, eI g 2 (dm)), (amd, eI g 1008 (md)), (ab, eI g 6 (bx))]) [0, 1, 2, 3, 4, 5, 6] (by decide) rfl
            exact (W.widen (k := 0) (n := 0) (Nat.le_of_ble_eq_true rfl) (Nat.le_of_ble_eq_true rfl) (W.zret (v := (nI (0))) hx hb hr (by decide) (fun t ht hW => ⟨⟨(nI (0)), ((fs).set 0 (.int (nI (2))), f, mn, fd, dm, md, bx), rfl, Or.inr (Or.inl ⟨c_38, Or.inr (Or.inr (Or.inr (Or.inl c_35))), rfl, rfl, rfl, rfl⟩), by rw [ht]; exact hP9, hD9.re [h, ap, am, ad, adm, amd, ab] rfl rfl⟩, hS.F ht⟩) hS.2.2 d_M_cut_117))
        · rw [if_neg c_35]
          refine lv_if_eq (tgt := 80) hx hb d_M_cut_49 (by decide) (fun h => absurd h (by decide)) (fun _ => ?_)
          refine lv_iload hx hb d_M_cut_52 (lv_at hl 6 rfl) ?_
          refine lv_iconst (v := (nI (1))) hx hb d_M_cut_54 (by decide) ?_
          refine lv_sipush (v := (nI (2000))) hx hb d_M_cut_55 (by decide) ?_
          refine va_calli (va_runS (As := [.int (hh), .int (nI (1)), .int (nI (2000))]) (rest := []) ⟨hx, hb, hml, hown, htB⟩ (p_M_isIn l g z _ (hh) (nI (1)) (nI (2000))) (va_cwS 3 htB (gS kw_509 kw_510 kw_3 g_M_isIn) rfl rfl rfl (by decide +kernel) ⟨by decide, by decide⟩) (pre_S hS hz ha trivial) rfl rfl hl.1 rfl (lv_room (Nat.le_of_ble_eq_true rfl)) d_M_cut_58 ⟨by decide, by decide⟩) hS (fun q _ h => h.elim) (fun q h => h.elim) (fun r_45 u t H1 locs ht hvm hw hB hz1 hk1 hS => ?_)
          obtain rfl := hB.symm.trans ht
          subst hw
          by_cases c_46 : outI (hh) (nI (1)) (nI (2000))
          · rw [if_pos c_46]
            refine lv_if_eq (tgt := 80) hx hb d_M_cut_61 (by decide) (fun _ => ?_) (fun h => absurd h (by decide))
            refine lv_iconst (v := (nI (0))) hx hb d_M_cut_80 (by decide) ?_
            refine lv_istore (lv' := [(8, .int (nI (0))), (0, .ref h), (1, .int (v)), (2, .int (x)), (3, .int (y)), (4, .int (zz)), (5, .int (w)), (6, .int (hh)), (7, .int (dd))]) hx hb d_M_cut_81 hl (by decide) rfl (fun ls hl => ?_)
            refine lv_aload_n hx hb d_M_cut_83 rfl (lv_at hl 1 rfl) ?_
            refine lv_aload_n hx hb d_M_cut_84 rfl (lv_at hl 1 rfl) ?_
            refine lv_iload_n hx hb d_M_cut_85 rfl (lv_at hl 2 rfl) ?_
            refine va_calli (va_runV (As := [.int (v)]) (rest := [.ref h]) ⟨hx, hb, hml, hown, htB⟩ (p_M_noPart l g z _ h (fs) (np) (v)) (cwV 1 htB (gV kw_520 kw_522 ks_1_1 kw_3 g_M_noPart) rfl rfl rfl (by decide +kernel) ⟨by decide, by decide⟩) (pre_V hS hz ha (va_recv ha.1 hP (ci := 3) (q0 := 0) rfl rfl) ⟨va_one (hP 0 _ rfl), hf1⟩) rfl rfl hl.1 rfl (lv_room (Nat.le_of_ble_eq_true rfl)) d_M_cut_86 ⟨by decide, by decide⟩) hS (fun q _ h => h.elim) (fun q h => h.elim) (fun r_48 u t H1 locs ht hvm hw hB hz1 hk1 hS => ?_)
            obtain rfl := hB.symm.trans ht
            subst hw
            by_cases c_49 : noP (v) (np)
            · rw [if_pos c_49]
              refine lv_if_eq (tgt := 96) hx hb d_M_cut_89 (by decide) (fun h => absurd h (by decide)) (fun _ => ?_)
              refine lv_iconst (v := (nI (1))) hx hb d_M_cut_92 (by decide) ?_
              refine lv_goto (tgt := 106) hx hb d_M_cut_93 (by decide) ?_
              refine va_put (D := g.1) (ci := 3) (v := .int (nI (1))) (ty := .int) (C := R_M) (T := F_M) (N := 19) hx hb htB in_M t_M t_M_ok n_M hown ha.1 hP hD hS 0 rfl rfl 0 (by decide) (htB _ kw_442) (fun _ h9 => h9) rfl (by decide +kernel) rfl rfl (by rw [hlen]; decide) d_M_cut_106 (fun H locs hP hD hS => ?_)
              have hP : va_P g.1 cls [(h, .inr (3, (fs).set 0 (.int (nI (1))))), (ap, eI g 1152 (f)), (am, eI g 8 (mn)), (ad, eI g 288 (fd)), (adm, eI g 2 (dm)), (amd, eI g 1008 (md)), (ab, eI g 6 (bx))] H := hP
              have hD : va_D A [(h, .inr (3, (fs).set 0 (.int (nI (1))))), (ap, eI g 1152 (f)), (am, eI g 8 (mn)), (ad, eI g 288 (fd)), (adm, eI g 2 (dm)), (amd, eI g 1008 (md)), (ab, eI g 6 (bx))] := hD
              refine lv_aload_n hx hb d_M_cut_109 rfl (lv_at hl 1 rfl) ?_
              refine va_get (D := g.1) (ci := 3) (v := .int (nI (1))) (C := R_M) (T := F_M) (N := 19) hx hb htB in_M hown ha.1 hP 0 rfl rfl 0 (by decide) (htB _ kw_442) (fun _ h9 => h9) (gset_eq hlen (by decide)) d_M_cut_110 ?_
              refine lv_if_le (tgt := 118) hx hb d_M_cut_113 (by decide) (fun h => absurd h (by decide)) (fun _ => ?_)
              refine lv_iconst (v := (nI (0))) hx hb d_M_cut_116 (by decide) ?_
              have hP9 := hP.sub (ws' := [(h, .inr (3, (fs).set 0 (.int (nI (1))))), (ap, eI g 1152 (f)), (am, eI g 8 (mn)), (ad, eI g 288 (fd)), (adm, eI g 2 (dm)), (amd, eI g 1008 (md)), (ab, eI g 6 (bx))]) [0, 1, 2, 3, 4, 5, 6] rfl
              have hD9 := hD.sub (ws' := [(h, .inr (3, (fs).set 0 (.int (nI (1))))), (ap, eI g 1152 (f)), (am, eI g 8 (mn)), (ad, eI g 288 (fd)), (adm, eI g 2 (dm)), (amd, eI g 1008 (md)), (ab, eI g 6 (bx))]) [0, 1, 2, 3, 4, 5, 6] (by decide) rfl
              exact (W.widen (k := 0) (n := 0) (Nat.le_of_ble_eq_true rfl) (Nat.le_of_ble_eq_true rfl) (W.zret (v := (nI (0))) hx hb hr (by decide) (fun t ht hW => ⟨⟨(nI (0)), ((fs).set 0 (.int (nI (1))), f, mn, fd, dm, md, bx), rfl, Or.inl ⟨c_49, rfl, rfl, rfl, rfl⟩, by rw [ht]; exact hP9, hD9.re [h, ap, am, ad, adm, amd, ab] rfl rfl⟩, hS.F ht⟩) hS.2.2 d_M_cut_117))
            · rw [if_neg c_49]
              refine lv_if_eq (tgt := 96) hx hb d_M_cut_89 (by decide) (fun _ => ?_) (fun h => absurd h (by decide))
              refine lv_iload hx hb d_M_cut_96 (lv_at hl 0 rfl) ?_
              refine lv_if_eq (tgt := 105) hx hb d_M_cut_98 (by decide) (fun _ => ?_) (fun h => absurd h (by decide))
              refine lv_iconst (v := (nI (2))) hx hb d_M_cut_105 (by decide) ?_
              refine va_put (D := g.1) (ci := 3) (v := .int (nI (2))) (ty := .int) (C := R_M) (T := F_M) (N := 19) hx hb htB in_M t_M t_M_ok n_M hown ha.1 hP hD hS 0 rfl rfl 0 (by decide) (htB _ kw_442) (fun _ h9 => h9) rfl (by decide +kernel) rfl rfl (by rw [hlen]; decide) d_M_cut_106 (fun H locs hP hD hS => ?_)
              have hP : va_P g.1 cls [(h, .inr (3, (fs).set 0 (.int (nI (2))))), (ap, eI g 1152 (f)), (am, eI g 8 (mn)), (ad, eI g 288 (fd)), (adm, eI g 2 (dm)), (amd, eI g 1008 (md)), (ab, eI g 6 (bx))] H := hP
              have hD : va_D A [(h, .inr (3, (fs).set 0 (.int (nI (2))))), (ap, eI g 1152 (f)), (am, eI g 8 (mn)), (ad, eI g 288 (fd)), (adm, eI g 2 (dm)), (amd, eI g 1008 (md)), (ab, eI g 6 (bx))] := hD
              refine lv_aload_n hx hb d_M_cut_109 rfl (lv_at hl 1 rfl) ?_
              refine va_get (D := g.1) (ci := 3) (v := .int (nI (2))) (C := R_M) (T := F_M) (N := 19) hx hb htB in_M hown ha.1 hP 0 rfl rfl 0 (by decide) (htB _ kw_442) (fun _ h9 => h9) (gset_eq hlen (by decide)) d_M_cut_110 ?_
              refine lv_if_le (tgt := 118) hx hb d_M_cut_113 (by decide) (fun h => absurd h (by decide)) (fun _ => ?_)
              refine lv_iconst (v := (nI (0))) hx hb d_M_cut_116 (by decide) ?_
              have hP9 := hP.sub (ws' := [(h, .inr (3, (fs).set 0 (.int (nI (2))))), (ap, eI g 1152 (f)), (am, eI g 8 (mn)), (ad, eI g 288 (fd)), (adm, eI g 2 (dm)), (amd, eI g 1008 (md)), (ab, eI g 6 (bx))]) [0, 1, 2, 3, 4, 5, 6] rfl
              have hD9 := hD.sub (ws' := [(h, .inr (3, (fs).set 0 (.int (nI (2))))), (ap, eI g 1152 (f)), (am, eI g 8 (mn)), (ad, eI g 288 (fd)), (adm, eI g 2 (dm)), (amd, eI g 1008 (md)), (ab, eI g 6 (bx))]) [0, 1, 2, 3, 4, 5, 6] (by decide) rfl
              exact (W.widen (k := 0) (n := 0) (Nat.le_of_ble_eq_true rfl) (Nat.le_of_ble_eq_true rfl) (W.zret (v := (nI (0))) hx hb hr (by decide) (fun t ht hW => ⟨⟨(nI (0)), ((fs).set 0 (.int (nI (2))), f, mn, fd, dm, md, bx), rfl, Or.inr (Or.inl ⟨c_49, Or.inr (Or.inr (Or.inr (Or.inr (Or.inl c_46)))), rfl, rfl, rfl, rfl⟩), by rw [ht]; exact hP9, hD9.re [h, ap, am, ad, adm, amd, ab] rfl rfl⟩, hS.F ht⟩) hS.2.2 d_M_cut_117))
          · rw [if_neg c_46]
            refine lv_if_eq (tgt := 80) hx hb d_M_cut_61 (by decide) (fun h => absurd h (by decide)) (fun _ => ?_)
            refine lv_iload hx hb d_M_cut_64 (lv_at hl 7 rfl) ?_
            refine lv_iconst (v := (nI (1))) hx hb d_M_cut_66 (by decide) ?_
            refine lv_sipush (v := (nI (2000))) hx hb d_M_cut_67 (by decide) ?_
            refine va_calli (va_runS (As := [.int (dd), .int (nI (1)), .int (nI (2000))]) (rest := []) ⟨hx, hb, hml, hown, htB⟩ (p_M_isIn l g z _ (dd) (nI (1)) (nI (2000))) (va_cwS 3 htB (gS kw_509 kw_510 kw_3 g_M_isIn) rfl rfl rfl (by decide +kernel) ⟨by decide, by decide⟩) (pre_S hS hz ha trivial) rfl rfl hl.1 rfl (lv_room (Nat.le_of_ble_eq_true rfl)) d_M_cut_70 ⟨by decide, by decide⟩) hS (fun q _ h => h.elim) (fun q h => h.elim) (fun r_56 u t H1 locs ht hvm hw hB hz1 hk1 hS => ?_)
            obtain rfl := hB.symm.trans ht
            subst hw
            by_cases c_57 : outI (dd) (nI (1)) (nI (2000))
            · rw [if_pos c_57]
              refine lv_if_eq (tgt := 80) hx hb d_M_cut_73 (by decide) (fun _ => ?_) (fun h => absurd h (by decide))
              refine lv_iconst (v := (nI (0))) hx hb d_M_cut_80 (by decide) ?_
              refine lv_istore (lv' := [(8, .int (nI (0))), (0, .ref h), (1, .int (v)), (2, .int (x)), (3, .int (y)), (4, .int (zz)), (5, .int (w)), (6, .int (hh)), (7, .int (dd))]) hx hb d_M_cut_81 hl (by decide) rfl (fun ls hl => ?_)
              refine lv_aload_n hx hb d_M_cut_83 rfl (lv_at hl 1 rfl) ?_
              refine lv_aload_n hx hb d_M_cut_84 rfl (lv_at hl 1 rfl) ?_
              refine lv_iload_n hx hb d_M_cut_85 rfl (lv_at hl 2 rfl) ?_
              refine va_calli (va_runV (As := [.int (v)]) (rest := [.ref h]) ⟨hx, hb, hml, hown, htB⟩ (p_M_noPart l g z _ h (fs) (np) (v)) (cwV 1 htB (gV kw_520 kw_522 ks_1_1 kw_3 g_M_noPart) rfl rfl rfl (by decide +kernel) ⟨by decide, by decide⟩) (pre_V hS hz ha (va_recv ha.1 hP (ci := 3) (q0 := 0) rfl rfl) ⟨va_one (hP 0 _ rfl), hf1⟩) rfl rfl hl.1 rfl (lv_room (Nat.le_of_ble_eq_true rfl)) d_M_cut_86 ⟨by decide, by decide⟩) hS (fun q _ h => h.elim) (fun q h => h.elim) (fun r_59 u t H1 locs ht hvm hw hB hz1 hk1 hS => ?_)
              obtain rfl := hB.symm.trans ht
              subst hw
              by_cases c_60 : noP (v) (np)
              · rw [if_pos c_60]
                refine lv_if_eq (tgt := 96) hx hb d_M_cut_89 (by decide) (fun h => absurd h (by decide)) (fun _ => ?_)
                refine lv_iconst (v := (nI (1))) hx hb d_M_cut_92 (by decide) ?_
                refine lv_goto (tgt := 106) hx hb d_M_cut_93 (by decide) ?_
                refine va_put (D := g.1) (ci := 3) (v := .int (nI (1))) (ty := .int) (C := R_M) (T := F_M) (N := 19) hx hb htB in_M t_M t_M_ok n_M hown ha.1 hP hD hS 0 rfl rfl 0 (by decide) (htB _ kw_442) (fun _ h9 => h9) rfl (by decide +kernel) rfl rfl (by rw [hlen]; decide) d_M_cut_106 (fun H locs hP hD hS => ?_)
                have hP : va_P g.1 cls [(h, .inr (3, (fs).set 0 (.int (nI (1))))), (ap, eI g 1152 (f)), (am, eI g 8 (mn)), (ad, eI g 288 (fd)), (adm, eI g 2 (dm)), (amd, eI g 1008 (md)), (ab, eI g 6 (bx))] H := hP
                have hD : va_D A [(h, .inr (3, (fs).set 0 (.int (nI (1))))), (ap, eI g 1152 (f)), (am, eI g 8 (mn)), (ad, eI g 288 (fd)), (adm, eI g 2 (dm)), (amd, eI g 1008 (md)), (ab, eI g 6 (bx))] := hD
                refine lv_aload_n hx hb d_M_cut_109 rfl (lv_at hl 1 rfl) ?_
                refine va_get (D := g.1) (ci := 3) (v := .int (nI (1))) (C := R_M) (T := F_M) (N := 19) hx hb htB in_M hown ha.1 hP 0 rfl rfl 0 (by decide) (htB _ kw_442) (fun _ h9 => h9) (gset_eq hlen (by decide)) d_M_cut_110 ?_
                refine lv_if_le (tgt := 118) hx hb d_M_cut_113 (by decide) (fun h => absurd h (by decide)) (fun _ => ?_)
                refine lv_iconst (v := (nI (0))) hx hb d_M_cut_116 (by decide) ?_
                have hP9 := hP.sub (ws' := [(h, .inr (3, (fs).set 0 (.int (nI (1))))), (ap, eI g 1152 (f)), (am, eI g 8 (mn)), (ad, eI g 288 (fd)), (adm, eI g 2 (dm)), (amd, eI g 1008 (md)), (ab, eI g 6 (bx))]) [0, 1, 2, 3, 4, 5, 6] rfl
                have hD9 := hD.sub (ws' := [(h, .inr (3, (fs).set 0 (.int (nI (1))))), (ap, eI g 1152 (f)), (am, eI g 8 (mn)), (ad, eI g 288 (fd)), (adm, eI g 2 (dm)), (amd, eI g 1008 (md)), (ab, eI g 6 (bx))]) [0, 1, 2, 3, 4, 5, 6] (by decide) rfl
                exact (W.widen (k := 0) (n := 0) (Nat.le_of_ble_eq_true rfl) (Nat.le_of_ble_eq_true rfl) (W.zret (v := (nI (0))) hx hb hr (by decide) (fun t ht hW => ⟨⟨(nI (0)), ((fs).set 0 (.int (nI (1))), f, mn, fd, dm, md, bx), rfl, Or.inl ⟨c_60, rfl, rfl, rfl, rfl⟩, by rw [ht]; exact hP9, hD9.re [h, ap, am, ad, adm, amd, ab] rfl rfl⟩, hS.F ht⟩) hS.2.2 d_M_cut_117))
              · rw [if_neg c_60]
                refine lv_if_eq (tgt := 96) hx hb d_M_cut_89 (by decide) (fun _ => ?_) (fun h => absurd h (by decide))
                refine lv_iload hx hb d_M_cut_96 (lv_at hl 0 rfl) ?_
                refine lv_if_eq (tgt := 105) hx hb d_M_cut_98 (by decide) (fun _ => ?_) (fun h => absurd h (by decide))
                refine lv_iconst (v := (nI (2))) hx hb d_M_cut_105 (by decide) ?_
                refine va_put (D := g.1) (ci := 3) (v := .int (nI (2))) (ty := .int) (C := R_M) (T := F_M) (N := 19) hx hb htB in_M t_M t_M_ok n_M hown ha.1 hP hD hS 0 rfl rfl 0 (by decide) (htB _ kw_442) (fun _ h9 => h9) rfl (by decide +kernel) rfl rfl (by rw [hlen]; decide) d_M_cut_106 (fun H locs hP hD hS => ?_)
                have hP : va_P g.1 cls [(h, .inr (3, (fs).set 0 (.int (nI (2))))), (ap, eI g 1152 (f)), (am, eI g 8 (mn)), (ad, eI g 288 (fd)), (adm, eI g 2 (dm)), (amd, eI g 1008 (md)), (ab, eI g 6 (bx))] H := hP
                have hD : va_D A [(h, .inr (3, (fs).set 0 (.int (nI (2))))), (ap, eI g 1152 (f)), (am, eI g 8 (mn)), (ad, eI g 288 (fd)), (adm, eI g 2 (dm)), (amd, eI g 1008 (md)), (ab, eI g 6 (bx))] := hD
                refine lv_aload_n hx hb d_M_cut_109 rfl (lv_at hl 1 rfl) ?_
                refine va_get (D := g.1) (ci := 3) (v := .int (nI (2))) (C := R_M) (T := F_M) (N := 19) hx hb htB in_M hown ha.1 hP 0 rfl rfl 0 (by decide) (htB _ kw_442) (fun _ h9 => h9) (gset_eq hlen (by decide)) d_M_cut_110 ?_
                refine lv_if_le (tgt := 118) hx hb d_M_cut_113 (by decide) (fun h => absurd h (by decide)) (fun _ => ?_)
                refine lv_iconst (v := (nI (0))) hx hb d_M_cut_116 (by decide) ?_
                have hP9 := hP.sub (ws' := [(h, .inr (3, (fs).set 0 (.int (nI (2))))), (ap, eI g 1152 (f)), (am, eI g 8 (mn)), (ad, eI g 288 (fd)), (adm, eI g 2 (dm)), (amd, eI g 1008 (md)), (ab, eI g 6 (bx))]) [0, 1, 2, 3, 4, 5, 6] rfl
                have hD9 := hD.sub (ws' := [(h, .inr (3, (fs).set 0 (.int (nI (2))))), (ap, eI g 1152 (f)), (am, eI g 8 (mn)), (ad, eI g 288 (fd)), (adm, eI g 2 (dm)), (amd, eI g 1008 (md)), (ab, eI g 6 (bx))]) [0, 1, 2, 3, 4, 5, 6] (by decide) rfl
                exact (W.widen (k := 0) (n := 0) (Nat.le_of_ble_eq_true rfl) (Nat.le_of_ble_eq_true rfl) (W.zret (v := (nI (0))) hx hb hr (by decide) (fun t ht hW => ⟨⟨(nI (0)), ((fs).set 0 (.int (nI (2))), f, mn, fd, dm, md, bx), rfl, Or.inr (Or.inl ⟨c_60, Or.inr (Or.inr (Or.inr (Or.inr (Or.inr (c_57))))), rfl, rfl, rfl, rfl⟩), by rw [ht]; exact hP9, hD9.re [h, ap, am, ad, adm, amd, ab] rfl rfl⟩, hS.F ht⟩) hS.2.2 d_M_cut_117))
            · rw [if_neg c_57]
              refine lv_if_eq (tgt := 80) hx hb d_M_cut_73 (by decide) (fun h => absurd h (by decide)) (fun _ => ?_)
              refine lv_iconst (v := (nI (1))) hx hb d_M_cut_76 (by decide) ?_
              refine lv_goto (tgt := 81) hx hb d_M_cut_77 (by decide) ?_
              refine lv_istore (lv' := [(8, .int (nI (1))), (0, .ref h), (1, .int (v)), (2, .int (x)), (3, .int (y)), (4, .int (zz)), (5, .int (w)), (6, .int (hh)), (7, .int (dd))]) hx hb d_M_cut_81 hl (by decide) rfl (fun ls hl => ?_)
              refine lv_aload_n hx hb d_M_cut_83 rfl (lv_at hl 1 rfl) ?_
              refine lv_aload_n hx hb d_M_cut_84 rfl (lv_at hl 1 rfl) ?_
              refine lv_iload_n hx hb d_M_cut_85 rfl (lv_at hl 2 rfl) ?_
              refine va_calli (va_runV (As := [.int (v)]) (rest := [.ref h]) ⟨hx, hb, hml, hown, htB⟩ (p_M_noPart l g z _ h (fs) (np) (v)) (cwV 1 htB (gV kw_520 kw_522 ks_1_1 kw_3 g_M_noPart) rfl rfl rfl (by decide +kernel) ⟨by decide, by decide⟩) (pre_V hS hz ha (va_recv ha.1 hP (ci := 3) (q0 := 0) rfl rfl) ⟨va_one (hP 0 _ rfl), hf1⟩) rfl rfl hl.1 rfl (lv_room (Nat.le_of_ble_eq_true rfl)) d_M_cut_86 ⟨by decide, by decide⟩) hS (fun q _ h => h.elim) (fun q h => h.elim) (fun r_67 u t H1 locs ht hvm hw hB hz1 hk1 hS => ?_)
              obtain rfl := hB.symm.trans ht
              subst hw
              by_cases c_68 : noP (v) (np)
              · rw [if_pos c_68]
                refine lv_if_eq (tgt := 96) hx hb d_M_cut_89 (by decide) (fun h => absurd h (by decide)) (fun _ => ?_)
                refine lv_iconst (v := (nI (1))) hx hb d_M_cut_92 (by decide) ?_
                refine lv_goto (tgt := 106) hx hb d_M_cut_93 (by decide) ?_
                refine va_put (D := g.1) (ci := 3) (v := .int (nI (1))) (ty := .int) (C := R_M) (T := F_M) (N := 19) hx hb htB in_M t_M t_M_ok n_M hown ha.1 hP hD hS 0 rfl rfl 0 (by decide) (htB _ kw_442) (fun _ h9 => h9) rfl (by decide +kernel) rfl rfl (by rw [hlen]; decide) d_M_cut_106 (fun H locs hP hD hS => ?_)
                have hP : va_P g.1 cls [(h, .inr (3, (fs).set 0 (.int (nI (1))))), (ap, eI g 1152 (f)), (am, eI g 8 (mn)), (ad, eI g 288 (fd)), (adm, eI g 2 (dm)), (amd, eI g 1008 (md)), (ab, eI g 6 (bx))] H := hP
                have hD : va_D A [(h, .inr (3, (fs).set 0 (.int (nI (1))))), (ap, eI g 1152 (f)), (am, eI g 8 (mn)), (ad, eI g 288 (fd)), (adm, eI g 2 (dm)), (amd, eI g 1008 (md)), (ab, eI g 6 (bx))] := hD
                refine lv_aload_n hx hb d_M_cut_109 rfl (lv_at hl 1 rfl) ?_
                refine va_get (D := g.1) (ci := 3) (v := .int (nI (1))) (C := R_M) (T := F_M) (N := 19) hx hb htB in_M hown ha.1 hP 0 rfl rfl 0 (by decide) (htB _ kw_442) (fun _ h9 => h9) (gset_eq hlen (by decide)) d_M_cut_110 ?_
                refine lv_if_le (tgt := 118) hx hb d_M_cut_113 (by decide) (fun h => absurd h (by decide)) (fun _ => ?_)
                refine lv_iconst (v := (nI (0))) hx hb d_M_cut_116 (by decide) ?_
                have hP9 := hP.sub (ws' := [(h, .inr (3, (fs).set 0 (.int (nI (1))))), (ap, eI g 1152 (f)), (am, eI g 8 (mn)), (ad, eI g 288 (fd)), (adm, eI g 2 (dm)), (amd, eI g 1008 (md)), (ab, eI g 6 (bx))]) [0, 1, 2, 3, 4, 5, 6] rfl
                have hD9 := hD.sub (ws' := [(h, .inr (3, (fs).set 0 (.int (nI (1))))), (ap, eI g 1152 (f)), (am, eI g 8 (mn)), (ad, eI g 288 (fd)), (adm, eI g 2 (dm)), (amd, eI g 1008 (md)), (ab, eI g 6 (bx))]) [0, 1, 2, 3, 4, 5, 6] (by decide) rfl
                exact (W.widen (k := 0) (n := 0) (Nat.le_of_ble_eq_true rfl) (Nat.le_of_ble_eq_true rfl) (W.zret (v := (nI (0))) hx hb hr (by decide) (fun t ht hW => ⟨⟨(nI (0)), ((fs).set 0 (.int (nI (1))), f, mn, fd, dm, md, bx), rfl, Or.inl ⟨c_68, rfl, rfl, rfl, rfl⟩, by rw [ht]; exact hP9, hD9.re [h, ap, am, ad, adm, amd, ab] rfl rfl⟩, hS.F ht⟩) hS.2.2 d_M_cut_117))
              · rw [if_neg c_68]
                refine lv_if_eq (tgt := 96) hx hb d_M_cut_89 (by decide) (fun _ => ?_) (fun h => absurd h (by decide))
                refine lv_iload hx hb d_M_cut_96 (lv_at hl 0 rfl) ?_
                refine lv_if_eq (tgt := 105) hx hb d_M_cut_98 (by decide) (fun h => absurd h (by decide)) (fun _ => ?_)
                refine lv_iconst (v := (nI (0))) hx hb d_M_cut_101 (by decide) ?_
                refine lv_goto (tgt := 106) hx hb d_M_cut_102 (by decide) ?_
                refine va_put (D := g.1) (ci := 3) (v := .int (nI (0))) (ty := .int) (C := R_M) (T := F_M) (N := 19) hx hb htB in_M t_M t_M_ok n_M hown ha.1 hP hD hS 0 rfl rfl 0 (by decide) (htB _ kw_442) (fun _ h9 => h9) rfl (by decide +kernel) rfl rfl (by rw [hlen]; decide) d_M_cut_106 (fun H locs hP hD hS => ?_)
                have hP : va_P g.1 cls [(h, .inr (3, (fs).set 0 (.int (nI (0))))), (ap, eI g 1152 (f)), (am, eI g 8 (mn)), (ad, eI g 288 (fd)), (adm, eI g 2 (dm)), (amd, eI g 1008 (md)), (ab, eI g 6 (bx))] H := hP
                have hD : va_D A [(h, .inr (3, (fs).set 0 (.int (nI (0))))), (ap, eI g 1152 (f)), (am, eI g 8 (mn)), (ad, eI g 288 (fd)), (adm, eI g 2 (dm)), (amd, eI g 1008 (md)), (ab, eI g 6 (bx))] := hD
                refine lv_aload_n hx hb d_M_cut_109 rfl (lv_at hl 1 rfl) ?_
                refine va_get (D := g.1) (ci := 3) (v := .int (nI (0))) (C := R_M) (T := F_M) (N := 19) hx hb htB in_M hown ha.1 hP 0 rfl rfl 0 (by decide) (htB _ kw_442) (fun _ h9 => h9) (gset_eq hlen (by decide)) d_M_cut_110 ?_
                refine lv_if_le (tgt := 118) hx hb d_M_cut_113 (by decide) (fun _ => ?_) (fun h => absurd h (by decide))
                obtain ⟨j, hj, rfl⟩ := noP_not (by omega) c_68
                obtain ⟨hm1, hm2, hm3⟩ := hpl j hj
                refine lv_aload_n hx hb d_M_cut_118 rfl (lv_at hl 1 rfl) ?_
                refine lv_iload_n hx hb d_M_cut_119 rfl (lv_at hl 3 rfl) ?_
                refine lv_iload_n hx hb d_M_cut_120 rfl (lv_at hl 4 rfl) ?_
                refine lv_iload hx hb d_M_cut_121 (lv_at hl 5 rfl) ?_
                refine lv_iload hx hb d_M_cut_123 (lv_at hl 6 rfl) ?_
                refine lv_iload hx hb d_M_cut_125 (lv_at hl 7 rfl) ?_
                refine lv_iload hx hb d_M_cut_127 (lv_at hl 8 rfl) ?_
                have hPc := hP.sub (ws' := [(h, .inr (3, (fs).set 0 (.int (nI (0))))), (ab, eI g 6 (bx))]) [0, 6] rfl
                have hDc := hD.sub (ws' := [(h, .inr (3, (fs).set 0 (.int (nI (0))))), (ab, eI g 6 (bx))]) [0, 6] (by decide) rfl
                have hFc := va_free (wc := [(h, .inr (3, (fs).set 0 (.int (nI (0))))), (ab, eI g 6 (bx))]) hD hS hA [0, 6] rfl
                refine va_callv (va_runV (As := [.int (x), .int (y), .int (zz), .int (w), .int (hh), .int (dd)]) (rest := []) ⟨hx, hb, hml, hown, htB⟩ (m_M_tell l g z _ h ((fs).set 0 (.int (nI (0)))) ab (bx) (x) (y) (zz) (w) (hh) (dd)) (cwV 6 htB (gV kw_512 kw_514 ks_1_0 kw_3 g_M_tell) rfl rfl rfl (by decide +kernel) ⟨Nat.le_of_ble_eq_true rfl, Nat.le_of_ble_eq_true rfl⟩) (pre_V hS hz ha (va_recv ha.1 hP (ci := 3) (q0 := 0) rfl rfl) ⟨hPc, hDc.weaken (fun _ _ _ h => hz _ h), (gset_ne (by decide) hf8)⟩) rfl rfl hl.1 rfl (lv_room (Nat.le_of_ble_eq_true rfl)) d_M_cut_129 ⟨Nat.le_of_ble_eq_true rfl, Nat.le_of_ble_eq_true rfl⟩) hS (fun q _ h => hFc q h) hFc (fun u_75 t H1 locs ht hvm hw hB hz1 hk1 hS => ?_)
                obtain ⟨hP1, hD1⟩ := hB
                rw [ht] at hP1
                obtain ⟨hP, hD⟩ := va_join (wr := [(ap, eI g 1152 (f)), (am, eI g 8 (mn)), (ad, eI g 288 (fd)), (adm, eI g 2 (dm)), (amd, eI g 1008 (md))]) (w1 := [(h, .inr (3, (fs).set 0 (.int (nI (0))))), (ab, eI g 6 (st6 bx (x) (y) (zz) ((x) + (w)) ((y) + (hh)) ((zz) + (dd))))]) hP hD [0, 6] [1, 2, 3, 4, 5] rfl rfl (by decide) (by decide) hk1 hFc hP1 hD1
                clear hPc hDc hFc hP1 hD1 hk1 hz1 hvm ht
                generalize H1 = H at hP hS ⊢
                have hP : va_P g.1 cls [(ap, eI g 1152 (f)), (am, eI g 8 (mn)), (ad, eI g 288 (fd)), (adm, eI g 2 (dm)), (amd, eI g 1008 (md)), (h, .inr (3, (fs).set 0 (.int (nI (0))))), (ab, eI g 6 (st6 bx (x) (y) (zz) ((x) + (w)) ((y) + (hh)) ((zz) + (dd))))] H := hP
                have hD : va_D A [(ap, eI g 1152 (f)), (am, eI g 8 (mn)), (ad, eI g 288 (fd)), (adm, eI g 2 (dm)), (amd, eI g 1008 (md)), (h, .inr (3, (fs).set 0 (.int (nI (0))))), (ab, eI g 6 (st6 bx (x) (y) (zz) ((x) + (w)) ((y) + (hh)) ((zz) + (dd))))] := hD
                obtain ⟨b6, hb6⟩ : ∃ x6 : Nat → Int32, x6 = st6 bx x y zz (x + w) (y + hh) (zz + dd) := ⟨_, rfl⟩
                have hP : va_P g.1 cls [(ap, eI g 1152 (f)), (am, eI g 8 (mn)), (ad, eI g 288 (fd)), (adm, eI g 2 (dm)), (amd, eI g 1008 (md)), (h, .inr (3, (fs).set 0 (.int (nI (0))))), (ab, eI g 6 (b6))] H := by rw [hb6]; exact hP
                have hD : va_D A [(ap, eI g 1152 (f)), (am, eI g 8 (mn)), (ad, eI g 288 (fd)), (adm, eI g 2 (dm)), (amd, eI g 1008 (md)), (h, .inr (3, (fs).set 0 (.int (nI (0))))), (ab, eI g 6 (b6))] := hD.re [ap, am, ad, adm, amd, h, ab] rfl rfl
                refine lv_aload_n hx hb d_M_cut_132 rfl (lv_at hl 1 rfl) ?_
                refine lv_iconst (v := (nI (0))) hx hb d_M_cut_133 (by decide) ?_
                refine lv_iload_n hx hb d_M_cut_134 rfl (lv_at hl 2 rfl) ?_
                have hPc := hP.sub (ws' := [(h, .inr (3, (fs).set 0 (.int (nI (0))))), (ap, eI g 1152 (f)), (am, eI g 8 (mn)), (ad, eI g 288 (fd)), (adm, eI g 2 (dm))]) [5, 0, 1, 2, 3] rfl
                have hDc := hD.sub (ws' := [(h, .inr (3, (fs).set 0 (.int (nI (0))))), (ap, eI g 1152 (f)), (am, eI g 8 (mn)), (ad, eI g 288 (fd)), (adm, eI g 2 (dm))]) [5, 0, 1, 2, 3] (by decide) rfl
                have hFc := va_free (wc := [(h, .inr (3, (fs).set 0 (.int (nI (0))))), (ap, eI g 1152 (f)), (am, eI g 8 (mn)), (ad, eI g 288 (fd)), (adm, eI g 2 (dm))]) hD hS hA [5, 0, 1, 2, 3] rfl
                refine va_callv (va_runV (As := [.int (nI (0)), .int (nI (j))]) (rest := []) ⟨hx, hb, hml, hown, htB⟩ (m_M_load l g z _ h ((fs).set 0 (.int (nI (0)))) ap am ad adm (f) (mn) (fd) (dm) (0) (j) ((PL j).length)) (cwV 2 htB (gV kw_524 kw_526 ks_1_2 kw_3 g_M_load) rfl rfl rfl (by decide +kernel) ⟨Nat.le_of_ble_eq_true rfl, Nat.le_of_ble_eq_true rfl⟩) (pre_V hS hz ha (va_recv ha.1 hP (ci := 3) (q0 := 5) rfl rfl) ⟨hPc, hDc.weaken (fun _ _ _ h => hz _ h), ⟨(gset_ne (by decide) hf3), (gset_ne (by decide) hf4), (gset_ne (by decide) hf5), (gset_ne (by decide) hf6), by omega, by omega, hm2, hm1⟩⟩) rfl rfl hl.1 rfl (lv_room (Nat.le_of_ble_eq_true rfl)) d_M_cut_135 ⟨Nat.le_of_ble_eq_true rfl, Nat.le_of_ble_eq_true rfl⟩) hS (fun q _ h => hFc q h) hFc (fun u_77 t H1 locs ht hvm hw hB hz1 hk1 hS => ?_)
                obtain ⟨hP1, hD1⟩ := hB
                rw [ht] at hP1
                obtain ⟨hP, hD⟩ := va_join (wr := [(amd, eI g 1008 (md)), (ab, eI g 6 (b6))]) (w1 := [(h, .inr (3, (fs).set 0 (.int (nI (0))))), (ap, eI g 1152 (f)), (am, eI g 8 (mn)), (ad, eI g 288 (va_cpy (f) (fd) (144 * j) (144 * 0) (6 * (PL j).length))), (adm, eI g 2 (upd (dm) (0) (nI (PL j).length)))]) hP hD [5, 0, 1, 2, 3] [4, 6] rfl rfl (by decide) (by decide) hk1 hFc hP1 hD1
                clear hPc hDc hFc hP1 hD1 hk1 hz1 hvm ht
                generalize H1 = H at hP hS ⊢
                have hP : va_P g.1 cls [(amd, eI g 1008 (md)), (ab, eI g 6 (b6)), (h, .inr (3, (fs).set 0 (.int (nI (0))))), (ap, eI g 1152 (f)), (am, eI g 8 (mn)), (ad, eI g 288 (va_cpy (f) (fd) (144 * j) (144 * 0) (6 * (PL j).length))), (adm, eI g 2 (upd (dm) (0) (nI (PL j).length)))] H := hP
                have hD : va_D A [(amd, eI g 1008 (md)), (ab, eI g 6 (b6)), (h, .inr (3, (fs).set 0 (.int (nI (0))))), (ap, eI g 1152 (f)), (am, eI g 8 (mn)), (ad, eI g 288 (va_cpy (f) (fd) (144 * j) (144 * 0) (6 * (PL j).length))), (adm, eI g 2 (upd (dm) (0) (nI (PL j).length)))] := hD
                refine lv_aload_n hx hb d_M_cut_138 rfl (lv_at hl 1 rfl) ?_
                refine lv_iconst (v := (nI (0))) hx hb d_M_cut_139 (by decide) ?_
                have hPc := hP.sub (ws' := [(h, .inr (3, (fs).set 0 (.int (nI (0))))), (ad, eI g 288 (va_cpy (f) (fd) (144 * j) (144 * 0) (6 * (PL j).length))), (adm, eI g 2 (upd (dm) (0) (nI (PL j).length))), (amd, eI g 1008 (md)), (ab, eI g 6 (b6))]) [2, 5, 6, 0, 1] rfl
                have hDc := hD.sub (ws' := [(h, .inr (3, (fs).set 0 (.int (nI (0))))), (ad, eI g 288 (va_cpy (f) (fd) (144 * j) (144 * 0) (6 * (PL j).length))), (adm, eI g 2 (upd (dm) (0) (nI (PL j).length))), (amd, eI g 1008 (md)), (ab, eI g 6 (b6))]) [2, 5, 6, 0, 1] (by decide) rfl
                have hFc := va_free (wc := [(h, .inr (3, (fs).set 0 (.int (nI (0))))), (ad, eI g 288 (va_cpy (f) (fd) (144 * j) (144 * 0) (6 * (PL j).length))), (adm, eI g 2 (upd (dm) (0) (nI (PL j).length))), (amd, eI g 1008 (md)), (ab, eI g 6 (b6))]) hD hS hA [2, 5, 6, 0, 1] rfl
                refine va_calli (va_runV (As := [.int (nI (0))]) (rest := []) ⟨hx, hb, hml, hown, htB⟩ (m_M_pareAll l g z _ h ((fs).set 0 (.int (nI (0)))) ad adm amd ab (va_cpy (f) (fd) (144 * j) (144 * 0) (6 * (PL j).length)) (upd (dm) (0) (nI (PL j).length)) (md) (b6) (0) ((PL j).length)) (cwV 1 htB (gV kw_528 kw_530 ks_1_3 kw_3 g_M_pareAll) rfl rfl rfl (by decide +kernel) ⟨Nat.le_of_ble_eq_true rfl, Nat.le_of_ble_eq_true rfl⟩) (pre_V hS hz ha (va_recv ha.1 hP (ci := 3) (q0 := 2) rfl rfl) ⟨hPc, hDc.weaken (fun _ _ _ h => hz _ h), ⟨(gset_ne (by decide) hf5), (gset_ne (by decide) hf6), (gset_ne (by decide) hf7), (gset_ne (by decide) hf8), by omega, by omega, pk_us⟩⟩) rfl rfl hl.1 rfl (lv_room (Nat.le_of_ble_eq_true rfl)) d_M_cut_140 ⟨Nat.le_of_ble_eq_true rfl, Nat.le_of_ble_eq_true rfl⟩) hS (fun q _ h => hFc q h) hFc (fun r_78 u_79 t H1 locs ht hvm hw hB hz1 hk1 hS => ?_)
                obtain ⟨hP1, hD1⟩ := hB
                rw [ht] at hP1
                obtain ⟨hP, hD⟩ := va_join (wr := [(ap, eI g 1152 (f)), (am, eI g 8 (mn))]) (w1 := [(h, .inr (3, (fs).set 0 (.int (nI (0))))), (ad, eI g 288 (if u_79.1 ≤ 24 then va_cpy u_79.2.2 (va_cpy (f) (fd) (144 * j) (144 * 0) (6 * (PL j).length)) 0 (144 * 0) (6 * u_79.1) else (va_cpy (f) (fd) (144 * j) (144 * 0) (6 * (PL j).length)))), (adm, eI g 2 (if u_79.1 ≤ 24 then upd (upd (dm) (0) (nI (PL j).length)) (0) (nI u_79.1) else (upd (dm) (0) (nI (PL j).length)))), (amd, eI g 1008 (u_79.2.2)), (ab, eI g 6 (b6))]) hP hD [2, 5, 6, 0, 1] [3, 4] rfl rfl (by decide) (by decide) hk1 hFc hP1 hD1
                clear hPc hDc hFc hP1 hD1 hk1 hz1 hvm ht
                generalize H1 = H at hP hS ⊢
                have hP : va_P g.1 cls [(ap, eI g 1152 (f)), (am, eI g 8 (mn)), (h, .inr (3, (fs).set 0 (.int (nI (0))))), (ad, eI g 288 (if u_79.1 ≤ 24 then va_cpy u_79.2.2 (va_cpy (f) (fd) (144 * j) (144 * 0) (6 * (PL j).length)) 0 (144 * 0) (6 * u_79.1) else (va_cpy (f) (fd) (144 * j) (144 * 0) (6 * (PL j).length)))), (adm, eI g 2 (if u_79.1 ≤ 24 then upd (upd (dm) (0) (nI (PL j).length)) (0) (nI u_79.1) else (upd (dm) (0) (nI (PL j).length)))), (amd, eI g 1008 (u_79.2.2)), (ab, eI g 6 (b6))] H := hP
                have hD : va_D A [(ap, eI g 1152 (f)), (am, eI g 8 (mn)), (h, .inr (3, (fs).set 0 (.int (nI (0))))), (ad, eI g 288 (if u_79.1 ≤ 24 then va_cpy u_79.2.2 (va_cpy (f) (fd) (144 * j) (144 * 0) (6 * (PL j).length)) 0 (144 * 0) (6 * u_79.1) else (va_cpy (f) (fd) (144 * j) (144 * 0) (6 * (PL j).length)))), (adm, eI g 2 (if u_79.1 ≤ 24 then upd (upd (dm) (0) (nI (PL j).length)) (0) (nI u_79.1) else (upd (dm) (0) (nI (PL j).length)))), (amd, eI g 1008 (u_79.2.2)), (ab, eI g 6 (b6))] := hD
                obtain ⟨hu1, hu2, hu3, hu4⟩ := hw
                subst hu2
                by_cases c_80 : u_79.1 ≤ 24
                · rw [if_pos c_80]
                  rw [if_pos c_80, if_pos c_80] at hP hD
                  obtain ⟨e1, e2, e3⟩ := cut_L hm3 hu1
                  have hnd := hm2
                  have hP : va_P g.1 cls [(ap, eI g 1152 (f)), (am, eI g 8 (mn)), (h, .inr (3, (fs).set 0 (.int (nI (0))))), (ad, eI g 288 (va_cpy u_79.2.2 (va_cpy (f) (fd) (144 * j) (144 * 0) (6 * (PL j).length)) 0 (144 * 0) (6 * u_79.1))), (adm, eI g 2 (upd (upd (dm) (0) (nI (PL j).length)) (0) (nI u_79.1))), (amd, eI g 1008 (u_79.2.2)), (ab, eI g 6 (b6))] H := hP
                  have hD : va_D A [(ap, eI g 1152 (f)), (am, eI g 8 (mn)), (h, .inr (3, (fs).set 0 (.int (nI (0))))), (ad, eI g 288 (va_cpy u_79.2.2 (va_cpy (f) (fd) (144 * j) (144 * 0) (6 * (PL j).length)) 0 (144 * 0) (6 * u_79.1))), (adm, eI g 2 (upd (upd (dm) (0) (nI (PL j).length)) (0) (nI u_79.1))), (amd, eI g 1008 (u_79.2.2)), (ab, eI g 6 (b6))] := hD
                  refine lv_istore (lv' := [(9, .int (nI (u_79.2.1))), (8, .int (nI (1))), (0, .ref h), (1, .int (nI (j))), (2, .int (x)), (3, .int (y)), (4, .int (zz)), (5, .int (w)), (6, .int (hh)), (7, .int (dd))]) hx hb d_M_cut_143 hl (by decide) rfl (fun ls hl => ?_)
                  refine lv_iload hx hb d_M_cut_145 (lv_at hl 0 rfl) ?_
                  refine lv_if_ge (tgt := 157) hx hb d_M_cut_147 (by decide) (fun c_81 => ?_) (fun c_81 => absurd c_81 (fun q => q (nI_pos' (by omega))))
                  refine lv_aload_n hx hb d_M_cut_157 rfl (lv_at hl 2 rfl) ?_
                  refine lv_iconst (v := (nI (0))) hx hb d_M_cut_158 (by decide) ?_
                  refine lv_iload_n hx hb d_M_cut_159 rfl (lv_at hl 3 rfl) ?_
                  have hPc := hP.sub (ws' := [(h, .inr (3, (fs).set 0 (.int (nI (0))))), (ap, eI g 1152 (f)), (am, eI g 8 (mn)), (ad, eI g 288 (va_cpy u_79.2.2 (va_cpy (f) (fd) (144 * j) (144 * 0) (6 * (PL j).length)) 0 (144 * 0) (6 * u_79.1))), (adm, eI g 2 (upd (upd (dm) (0) (nI (PL j).length)) (0) (nI u_79.1)))]) [2, 0, 1, 3, 4] rfl
                  have hDc := hD.sub (ws' := [(h, .inr (3, (fs).set 0 (.int (nI (0))))), (ap, eI g 1152 (f)), (am, eI g 8 (mn)), (ad, eI g 288 (va_cpy u_79.2.2 (va_cpy (f) (fd) (144 * j) (144 * 0) (6 * (PL j).length)) 0 (144 * 0) (6 * u_79.1))), (adm, eI g 2 (upd (upd (dm) (0) (nI (PL j).length)) (0) (nI u_79.1)))]) [2, 0, 1, 3, 4] (by decide) rfl
                  have hFc := va_free (wc := [(h, .inr (3, (fs).set 0 (.int (nI (0))))), (ap, eI g 1152 (f)), (am, eI g 8 (mn)), (ad, eI g 288 (va_cpy u_79.2.2 (va_cpy (f) (fd) (144 * j) (144 * 0) (6 * (PL j).length)) 0 (144 * 0) (6 * u_79.1))), (adm, eI g 2 (upd (upd (dm) (0) (nI (PL j).length)) (0) (nI u_79.1)))]) hD hS hA [2, 0, 1, 3, 4] rfl
                  refine va_callv (va_runV (As := [.int (nI (0)), .int (nI (j))]) (rest := []) ⟨hx, hb, hml, hown, htB⟩ (m_M_store l g z _ h ((fs).set 0 (.int (nI (0)))) ap am ad adm (f) (mn) (va_cpy u_79.2.2 (va_cpy (f) (fd) (144 * j) (144 * 0) (6 * (PL j).length)) 0 (144 * 0) (6 * u_79.1)) (upd (upd (dm) (0) (nI (PL j).length)) (0) (nI u_79.1)) (0) (j) (u_79.1)) (cwV 2 htB (gV kw_546 kw_548 ks_1_6 kw_3 g_M_store) rfl rfl rfl (by decide +kernel) ⟨Nat.le_of_ble_eq_true rfl, Nat.le_of_ble_eq_true rfl⟩) (pre_V hS hz ha (va_recv ha.1 hP (ci := 3) (q0 := 2) rfl rfl) ⟨hPc, hDc.weaken (fun _ _ _ h => hz _ h), ⟨(gset_ne (by decide) hf3), (gset_ne (by decide) hf4), (gset_ne (by decide) hf5), (gset_ne (by decide) hf6), by omega, by omega, c_80, pk_us⟩⟩) rfl rfl hl.1 rfl (lv_room (Nat.le_of_ble_eq_true rfl)) d_M_cut_160 ⟨Nat.le_of_ble_eq_true rfl, Nat.le_of_ble_eq_true rfl⟩) hS (fun q _ h => hFc q h) hFc (fun u_83 t H1 locs ht hvm hw hB hz1 hk1 hS => ?_)
                  obtain ⟨hP1, hD1⟩ := hB
                  rw [ht] at hP1
                  obtain ⟨hP, hD⟩ := va_join (wr := [(amd, eI g 1008 (u_79.2.2)), (ab, eI g 6 (b6))]) (w1 := [(h, .inr (3, (fs).set 0 (.int (nI (0))))), (ap, eI g 1152 (va_cpy (va_cpy u_79.2.2 (va_cpy (f) (fd) (144 * j) (144 * 0) (6 * (PL j).length)) 0 (144 * 0) (6 * u_79.1)) (f) (144 * 0) (144 * j) (6 * u_79.1))), (am, eI g 8 (upd (mn) (j) (nI u_79.1))), (ad, eI g 288 (va_cpy u_79.2.2 (va_cpy (f) (fd) (144 * j) (144 * 0) (6 * (PL j).length)) 0 (144 * 0) (6 * u_79.1))), (adm, eI g 2 (upd (upd (dm) (0) (nI (PL j).length)) (0) (nI u_79.1)))]) hP hD [2, 0, 1, 3, 4] [5, 6] rfl rfl (by decide) (by decide) hk1 hFc hP1 hD1
                  clear hPc hDc hFc hP1 hD1 hk1 hz1 hvm ht
                  generalize H1 = H at hP hS ⊢
                  have hP : va_P g.1 cls [(amd, eI g 1008 (u_79.2.2)), (ab, eI g 6 (b6)), (h, .inr (3, (fs).set 0 (.int (nI (0))))), (ap, eI g 1152 (va_cpy (va_cpy u_79.2.2 (va_cpy (f) (fd) (144 * j) (144 * 0) (6 * (PL j).length)) 0 (144 * 0) (6 * u_79.1)) (f) (144 * 0) (144 * j) (6 * u_79.1))), (am, eI g 8 (upd (mn) (j) (nI u_79.1))), (ad, eI g 288 (va_cpy u_79.2.2 (va_cpy (f) (fd) (144 * j) (144 * 0) (6 * (PL j).length)) 0 (144 * 0) (6 * u_79.1))), (adm, eI g 2 (upd (upd (dm) (0) (nI (PL j).length)) (0) (nI u_79.1)))] H := hP
                  have hD : va_D A [(amd, eI g 1008 (u_79.2.2)), (ab, eI g 6 (b6)), (h, .inr (3, (fs).set 0 (.int (nI (0))))), (ap, eI g 1152 (va_cpy (va_cpy u_79.2.2 (va_cpy (f) (fd) (144 * j) (144 * 0) (6 * (PL j).length)) 0 (144 * 0) (6 * u_79.1)) (f) (144 * 0) (144 * j) (6 * u_79.1))), (am, eI g 8 (upd (mn) (j) (nI u_79.1))), (ad, eI g 288 (va_cpy u_79.2.2 (va_cpy (f) (fd) (144 * j) (144 * 0) (6 * (PL j).length)) 0 (144 * 0) (6 * u_79.1))), (adm, eI g 2 (upd (upd (dm) (0) (nI (PL j).length)) (0) (nI u_79.1)))] := hD
                  refine lv_iload hx hb d_M_cut_163 (lv_at hl 0 rfl) ?_
                  refine lv_if_le (tgt := 172) hx hb d_M_cut_165 (by decide) (fun c_84 => ?_) (fun c_84 => ?_)
                  · refine lv_iconst (v := (nI (0))) hx hb d_M_cut_172 (by decide) ?_
                    have hP9 := hP.sub (ws' := [(h, .inr (3, (fs).set 0 (.int (nI (0))))), (ap, eI g 1152 (va_cpy (va_cpy u_79.2.2 (va_cpy (f) (fd) (144 * j) (144 * 0) (6 * (PL j).length)) 0 (144 * 0) (6 * u_79.1)) (f) (144 * 0) (144 * j) (6 * u_79.1))), (am, eI g 8 (upd (mn) (j) (nI u_79.1))), (ad, eI g 288 (va_cpy u_79.2.2 (va_cpy (f) (fd) (144 * j) (144 * 0) (6 * (PL j).length)) 0 (144 * 0) (6 * u_79.1))), (adm, eI g 2 (upd (upd (dm) (0) (nI (PL j).length)) (0) (nI u_79.1))), (amd, eI g 1008 (u_79.2.2)), (ab, eI g 6 (b6))]) [2, 3, 4, 5, 6, 0, 1] rfl
                    have hD9 := hD.sub (ws' := [(h, .inr (3, (fs).set 0 (.int (nI (0))))), (ap, eI g 1152 (va_cpy (va_cpy u_79.2.2 (va_cpy (f) (fd) (144 * j) (144 * 0) (6 * (PL j).length)) 0 (144 * 0) (6 * u_79.1)) (f) (144 * 0) (144 * j) (6 * u_79.1))), (am, eI g 8 (upd (mn) (j) (nI u_79.1))), (ad, eI g 288 (va_cpy u_79.2.2 (va_cpy (f) (fd) (144 * j) (144 * 0) (6 * (PL j).length)) 0 (144 * 0) (6 * u_79.1))), (adm, eI g 2 (upd (upd (dm) (0) (nI (PL j).length)) (0) (nI u_79.1))), (amd, eI g 1008 (u_79.2.2)), (ab, eI g 6 (b6))]) [2, 3, 4, 5, 6, 0, 1] (by decide) rfl
                    exact (W.widen (k := 0) (n := 0) (Nat.le_of_ble_eq_true rfl) (Nat.le_of_ble_eq_true rfl) (W.zret (v := (nI (0))) hx hb hr (by decide) (fun t ht hW => ⟨⟨(nI (0)), ((fs).set 0 (.int (nI (0))), va_cpy (va_cpy u_79.2.2 (va_cpy (f) (fd) (144 * j) (144 * 0) (6 * (PL j).length)) 0 (144 * 0) (6 * u_79.1)) (f) (144 * 0) (144 * j) (6 * u_79.1), upd (mn) (j) (nI u_79.1), va_cpy u_79.2.2 (va_cpy (f) (fd) (144 * j) (144 * 0) (6 * (PL j).length)) 0 (144 * 0) (6 * u_79.1), upd (upd (dm) (0) (nI (PL j).length)) (0) (nI u_79.1), u_79.2.2, b6), rfl, Or.inr (Or.inr ⟨j, hj, rfl, fun q => q.elim c_2 (fun q => q.elim c_13 (fun q => q.elim c_24 (fun q => q.elim c_35 (fun q => q.elim c_46 c_57)))), Or.inr (by rw [← hb6]; exact ⟨by rw [← e1]; exact c_80, rfl, pL_store hpl hj e1 c_80 (bl_cpy.trans e2), Or.inr ⟨rfl, fun q => nI_nle (e3.mpr q) (by omega) c_84⟩⟩)⟩), by rw [ht]; exact hP9, hD9.re [h, ap, am, ad, adm, amd, ab] rfl rfl⟩, hS.F ht⟩) hS.2.2 d_M_cut_173))
                  · refine lv_iconst (v := (nI (1))) hx hb d_M_cut_168 (by decide) ?_
                    refine lv_goto (tgt := 173) hx hb d_M_cut_169 (by decide) ?_
                    have hP9 := hP.sub (ws' := [(h, .inr (3, (fs).set 0 (.int (nI (0))))), (ap, eI g 1152 (va_cpy (va_cpy u_79.2.2 (va_cpy (f) (fd) (144 * j) (144 * 0) (6 * (PL j).length)) 0 (144 * 0) (6 * u_79.1)) (f) (144 * 0) (144 * j) (6 * u_79.1))), (am, eI g 8 (upd (mn) (j) (nI u_79.1))), (ad, eI g 288 (va_cpy u_79.2.2 (va_cpy (f) (fd) (144 * j) (144 * 0) (6 * (PL j).length)) 0 (144 * 0) (6 * u_79.1))), (adm, eI g 2 (upd (upd (dm) (0) (nI (PL j).length)) (0) (nI u_79.1))), (amd, eI g 1008 (u_79.2.2)), (ab, eI g 6 (b6))]) [2, 3, 4, 5, 6, 0, 1] rfl
                    have hD9 := hD.sub (ws' := [(h, .inr (3, (fs).set 0 (.int (nI (0))))), (ap, eI g 1152 (va_cpy (va_cpy u_79.2.2 (va_cpy (f) (fd) (144 * j) (144 * 0) (6 * (PL j).length)) 0 (144 * 0) (6 * u_79.1)) (f) (144 * 0) (144 * j) (6 * u_79.1))), (am, eI g 8 (upd (mn) (j) (nI u_79.1))), (ad, eI g 288 (va_cpy u_79.2.2 (va_cpy (f) (fd) (144 * j) (144 * 0) (6 * (PL j).length)) 0 (144 * 0) (6 * u_79.1))), (adm, eI g 2 (upd (upd (dm) (0) (nI (PL j).length)) (0) (nI u_79.1))), (amd, eI g 1008 (u_79.2.2)), (ab, eI g 6 (b6))]) [2, 3, 4, 5, 6, 0, 1] (by decide) rfl
                    exact (W.widen (k := 0) (n := 0) (Nat.le_of_ble_eq_true rfl) (Nat.le_of_ble_eq_true rfl) (W.zret (v := (nI (1))) hx hb hr (by decide) (fun t ht hW => ⟨⟨(nI (1)), ((fs).set 0 (.int (nI (0))), va_cpy (va_cpy u_79.2.2 (va_cpy (f) (fd) (144 * j) (144 * 0) (6 * (PL j).length)) 0 (144 * 0) (6 * u_79.1)) (f) (144 * 0) (144 * j) (6 * u_79.1), upd (mn) (j) (nI u_79.1), va_cpy u_79.2.2 (va_cpy (f) (fd) (144 * j) (144 * 0) (6 * (PL j).length)) 0 (144 * 0) (6 * u_79.1), upd (upd (dm) (0) (nI (PL j).length)) (0) (nI u_79.1), u_79.2.2, b6), rfl, Or.inr (Or.inr ⟨j, hj, rfl, fun q => q.elim c_2 (fun q => q.elim c_13 (fun q => q.elim c_24 (fun q => q.elim c_35 (fun q => q.elim c_46 c_57)))), Or.inr (by rw [← hb6]; exact ⟨by rw [← e1]; exact c_80, rfl, pL_store hpl hj e1 c_80 (bl_cpy.trans e2), Or.inl ⟨rfl, e3.mp (Nat.pos_of_ne_zero (fun e => c_84 (by rw [e]; decide)))⟩⟩)⟩), by rw [ht]; exact hP9, hD9.re [h, ap, am, ad, adm, amd, ab] rfl rfl⟩, hS.F ht⟩) hS.2.2 d_M_cut_173))
                · rw [if_neg c_80]
                  rw [if_neg c_80, if_neg c_80] at hP hD
                  obtain ⟨e1, e2, e3⟩ := cut_L hm3 hu1
                  have hnd := hm2
                  have hP : va_P g.1 cls [(ap, eI g 1152 (f)), (am, eI g 8 (mn)), (h, .inr (3, (fs).set 0 (.int (nI (0))))), (ad, eI g 288 (va_cpy (f) (fd) (144 * j) (144 * 0) (6 * (PL j).length))), (adm, eI g 2 (upd (dm) (0) (nI (PL j).length))), (amd, eI g 1008 (u_79.2.2)), (ab, eI g 6 (b6))] H := hP
                  have hD : va_D A [(ap, eI g 1152 (f)), (am, eI g 8 (mn)), (h, .inr (3, (fs).set 0 (.int (nI (0))))), (ad, eI g 288 (va_cpy (f) (fd) (144 * j) (144 * 0) (6 * (PL j).length))), (adm, eI g 2 (upd (dm) (0) (nI (PL j).length))), (amd, eI g 1008 (u_79.2.2)), (ab, eI g 6 (b6))] := hD
                  refine lv_istore (lv' := [(9, .int ((-1))), (8, .int (nI (1))), (0, .ref h), (1, .int (nI (j))), (2, .int (x)), (3, .int (y)), (4, .int (zz)), (5, .int (w)), (6, .int (hh)), (7, .int (dd))]) hx hb d_M_cut_143 hl (by decide) rfl (fun ls hl => ?_)
                  refine lv_iload hx hb d_M_cut_145 (lv_at hl 0 rfl) ?_
                  refine lv_if_ge (tgt := 157) hx hb d_M_cut_147 (by decide) (fun c_85 => absurd c_85 (by decide)) (fun c_85 => ?_)
                  refine lv_aload_n hx hb d_M_cut_150 rfl (lv_at hl 2 rfl) ?_
                  refine lv_iconst (v := (nI (3))) hx hb d_M_cut_151 (by decide) ?_
                  refine va_put (D := g.1) (ci := 3) (v := .int (nI (3))) (ty := .int) (C := R_M) (T := F_M) (N := 19) hx hb htB in_M t_M t_M_ok n_M hown ha.1 hP hD hS 2 rfl rfl 0 (by decide) (htB _ kw_442) (fun _ h9 => h9) rfl (by decide +kernel) rfl rfl (by rw [(glen hlen)]; decide) d_M_cut_152 (fun H locs hP hD hS => ?_)
                  have hP : va_P g.1 cls [(ap, eI g 1152 (f)), (am, eI g 8 (mn)), (h, .inr (3, ((fs).set 0 (.int (nI (0)))).set 0 (.int (nI (3))))), (ad, eI g 288 (va_cpy (f) (fd) (144 * j) (144 * 0) (6 * (PL j).length))), (adm, eI g 2 (upd (dm) (0) (nI (PL j).length))), (amd, eI g 1008 (u_79.2.2)), (ab, eI g 6 (b6))] H := hP
                  have hD : va_D A [(ap, eI g 1152 (f)), (am, eI g 8 (mn)), (h, .inr (3, ((fs).set 0 (.int (nI (0)))).set 0 (.int (nI (3))))), (ad, eI g 288 (va_cpy (f) (fd) (144 * j) (144 * 0) (6 * (PL j).length))), (adm, eI g 2 (upd (dm) (0) (nI (PL j).length))), (amd, eI g 1008 (u_79.2.2)), (ab, eI g 6 (b6))] := hD
                  refine lv_iconst (v := (nI (0))) hx hb d_M_cut_155 (by decide) ?_
                  have hP9 := hP.sub (ws' := [(h, .inr (3, ((fs).set 0 (.int (nI (0)))).set 0 (.int (nI (3))))), (ap, eI g 1152 (f)), (am, eI g 8 (mn)), (ad, eI g 288 (va_cpy (f) (fd) (144 * j) (144 * 0) (6 * (PL j).length))), (adm, eI g 2 (upd (dm) (0) (nI (PL j).length))), (amd, eI g 1008 (u_79.2.2)), (ab, eI g 6 (b6))]) [2, 0, 1, 3, 4, 5, 6] rfl
                  have hD9 := hD.sub (ws' := [(h, .inr (3, ((fs).set 0 (.int (nI (0)))).set 0 (.int (nI (3))))), (ap, eI g 1152 (f)), (am, eI g 8 (mn)), (ad, eI g 288 (va_cpy (f) (fd) (144 * j) (144 * 0) (6 * (PL j).length))), (adm, eI g 2 (upd (dm) (0) (nI (PL j).length))), (amd, eI g 1008 (u_79.2.2)), (ab, eI g 6 (b6))]) [2, 0, 1, 3, 4, 5, 6] (by decide) rfl
                  exact (W.widen (k := 0) (n := 0) (Nat.le_of_ble_eq_true rfl) (Nat.le_of_ble_eq_true rfl) (W.zret (v := (nI (0))) hx hb hr (by decide) (fun t ht hW => ⟨⟨(nI (0)), (((fs).set 0 (.int (nI (0)))).set 0 (.int (nI (3))), f, mn, va_cpy (f) (fd) (144 * j) (144 * 0) (6 * (PL j).length), upd (dm) (0) (nI (PL j).length), u_79.2.2, b6), rfl, Or.inr (Or.inr ⟨j, hj, rfl, fun q => q.elim c_2 (fun q => q.elim c_13 (fun q => q.elim c_24 (fun q => q.elim c_35 (fun q => q.elim c_46 c_57)))), Or.inl ⟨by rw [← hb6, ← e1]; exact c_80, rfl, rfl, rfl, rfl⟩⟩), by rw [ht]; exact hP9, hD9.re [h, ap, am, ad, adm, amd, ab] rfl rfl⟩, hS.F ht⟩) hS.2.2 d_M_cut_156))
