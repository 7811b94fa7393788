set_option maxHeartbeats 4000000 in
set_option maxRecDepth 100000 in
theorem p_J_solidOf (l : Launch) (g : gT) (z : Nat) (H0 : Heap) (h : Nat) (fs : List Value) (pa : Nat) (gp : Nat → Option Nat) (j a : Nat) : Met l y_J_solidOf w_J_solidOf ({ frames := 0, cells := 0, slots := 0, locals := 0 }) (va_Pc [.ref h, .int (nI (j))] (pB g z H0 (va_P g.1 cls [(h, .inr (1, fs)), (pa, ePS g 8 gp)] H0 ∧ fs[0]? = some (.ref pa) ∧ j < 8 ∧ gp j = some a))) (qR (fun r => r = a) H0) 0 0 nA := by
  refine Met.ofW (cc := c_J_solidOf) (maxL := 2) (ret := (some (.object "JointSolids$Solid"))) (by decide) rfl ?_
  intro p e s m args below meth c s₁ B hml hv
  obtain ⟨rfl, hH0, ha, hP, hf, hj, hg⟩ := hv
  have hx := B.exec
  have hb := B.bytes
  have hr := B.returns
  have htB : ∀ w ∈ tB, w.before _ s = true := fun w h => atoms_spec (ws := w_J_solidOf) B.pre w (List.mem_cons_of_mem _ h)
  have hown : s.vm.findClass "JointSolids" = some m.cls := findClass_of_methodNamed B.named
  have hlocks := B.notSynchronized
  subst hH0
  have hz : ∀ q, nA q → z ≤ q := nA_z
  have hS : va_S nA s.heap s.heap [] := va_S.rf
  have hl := lv_entry ([.ref h, .int (nI (j))]) (n := 2) (Nat.le_of_ble_eq_true rfl)
  rw [lg_entry_eq]
  generalize (lg_sl ([.ref h, .int (nI (j))]) ++ List.replicate (2 - (lg_sl ([.ref h, .int (nI (j))])).length) Slot.unset).toArray = ls at hl ⊢
  have hl : lv_has ls 2 [(0, .ref h), (1, .int (nI (j)))] := hl
  refine lv_iload_n hx hb d_J_solidOf_0 rfl (lv_at hl 1 rfl) ?_
  refine lv_if_lt (tgt := 19) hx hb d_J_solidOf_1 (by decide) (fun c_1 => absurd c_1 (nI_pos (by omega))) (fun c_1 => ?_)
  refine lv_iload_n hx hb d_J_solidOf_4 rfl (lv_at hl 1 rfl) ?_
  refine lv_bipush (v := (nI (8))) hx hb d_J_solidOf_5 (by decide) ?_
  refine jv_icmp_ge (tgt := 19) hx hb (by omega) (by omega) d_J_solidOf_7 (by decide) (fun c_2 => absurd c_2 (by omega)) (fun c_2 => ?_)
  refine lv_aload_n hx hb d_J_solidOf_10 rfl (lv_at hl 0 rfl) ?_
  refine va_get (D := g.1) (ci := 1) (v := .ref pa) (C := R_J) (T := F_J) (N := 14) hx hb htB in_J hown ha.1 hP 0 rfl rfl 0 (by decide) (htB _ kw_40) (fun _ h9 => h9) hf d_J_solidOf_11 ?_
  refine lv_iload_n hx hb d_J_solidOf_14 rfl (lv_at hl 1 rfl) ?_
  refine ja_aldq (k := j) hx hb ha.1 hP 1 2 rfl rfl (by omega) (by omega) d_J_solidOf_15 ?_
  rw [hg]
  refine lv_ifnonnull (tgt := 29) hx hb d_J_solidOf_16 (by decide) ?_
  refine lv_aload_n hx hb d_J_solidOf_29 rfl (lv_at hl 0 rfl) ?_
  refine va_get (D := g.1) (ci := 1) (v := .ref pa) (C := R_J) (T := F_J) (N := 14) hx hb htB in_J hown ha.1 hP 0 rfl rfl 0 (by decide) (htB _ kw_40) (fun _ h9 => h9) hf d_J_solidOf_30 ?_
  refine lv_iload_n hx hb d_J_solidOf_33 rfl (lv_at hl 1 rfl) ?_
  refine ja_aldq (k := j) hx hb ha.1 hP 1 2 rfl rfl (by omega) (by omega) d_J_solidOf_34 ?_
  rw [hg]
  exact W.aret (v := .ref a) hx hb hr (Or.inl ⟨_, rfl⟩) (Or.inr ⟨_, rfl⟩) (fun t ht hW => ⟨⟨(), a, rfl, trivial, rfl, ht⟩, hS.F ht⟩) hS.2.2 d_J_solidOf_35
def kN (nj np : Nat) (KT : Nat → kT) : Prop := ∀ q, q < nj → (KT q).1 < 5 ∧ (KT q).2.1 < np ∧ (KT q).2.2.1 < np ∧ (KT q).2.2.2.1 < 3
theorem noP_int {v : Int32} {n : Nat} (h : noP v (n + 1)) (hn : n < 2 ^ 30) : v.toInt < 0 ∨ (n : Int) < v.toInt := by
  refine Classical.byContradiction fun q => ?_
  have q1 : ¬ v.toInt < 0 := fun x => q (Or.inl x)
  have q2 : ¬ (n : Int) < v.toInt := fun x => q (Or.inr x)
  rcases h with h | h
  · rw [Int32.lt_iff_toInt_lt] at h; exact q1 h
  · exact h (by rw [Int32.lt_iff_toInt_lt, nI_Int (by omega)]; omega)
set_option maxHeartbeats 4000000 in
set_option maxRecDepth 100000 in
theorem x_J_strength (l : Launch) (hlt : l.stackTraces = false) (g : gT) (z : Nat) (H0 : Heap) (h : Nat) (fs : List Value) (pa np : Nat) (gp : Nat → Option Nat) (PA PB : Nat → Nat) (PF : Nat → Nat → Int32) (PL : Nat → List Bx) (jk : Nat) (nj : Nat) (gk : Nat → Option Nat) (KA : Nat → Nat) (KT : Nat → kT) (arw : Nat) (rw0 : Nat → Int32) (v : Int32) : vx_Met l y_J_strength w_J_strength ({ frames := 7, cells := 1, slots := 6, locals := 103 }) (va_Pc [.ref h, .int (v)] (pB g z H0 (va_P g.1 cls [(h, .inr (1, fs)), (pa, ePS g 8 gp), (jk, ePK g 12 gk), (arw, eI g 5 rw0)] H0 ∧ fs[0]? = some (.ref pa) ∧ fs[3]? = some (.ref jk) ∧ fs[5]? = some (.ref arw) ∧ pP g H0 np gp PA PB PF PL ∧ kP g H0 nj gk KA KT ∧ kN nj np KT))) (va_Ql (fun (rr : Int64) (_ : Unit) => stF nj KT PL rw0 v = (0, rr)) (fun _ t => t.heap = H0) nA) (xX (fun E => E = E_IOB ∧ (stF nj KT PL rw0 v).1 = 1) H0) 1 6 nA := by
  refine vx_ofW (cc := c_J_strength) (maxL := 3) (ret := (some .long)) (by decide) rfl ?_
  intro p e s m args below meth c s₁ B hml htab hv
  obtain ⟨rfl, hH0, ha, hP, hf0, hf3, hf5, ⟨hnp, hg1, hg2, hgp⟩, ⟨hnj, hq1, hq2, hgk⟩, hkn⟩ := hv
  have hx := B.exec
  have hb := B.bytes
  have hr := B.returns
  have htB : ∀ w ∈ tB, w.before _ s = true := fun w h => atoms_spec (ws := w_J_strength) B.pre w (List.mem_cons_of_mem _ h)
  have hown : s.vm.findClass "JointSolids" = some m.cls := findClass_of_methodNamed B.named
  have hlocks := B.notSynchronized
  subst hH0
  have hz : ∀ q, nA q → z ≤ q := nA_z
  have hS : va_S nA s.heap s.heap [] := va_S.rf
  have hl := lv_entry ([.ref h, .int (v)]) (n := 3) (Nat.le_of_ble_eq_true rfl)
  rw [lg_entry_eq]
  generalize (lg_sl ([.ref h, .int (v)]) ++ List.replicate (3 - (lg_sl ([.ref h, .int (v)])).length) Slot.unset).toArray = ls at hl ⊢
  have hl : lv_has ls 3 [(0, .ref h), (1, .int (v))] := hl
  refine lv_aload_n hx hb d_J_strength_0 rfl (lv_at hl 0 rfl) ?_
  refine lv_iload_n hx hb d_J_strength_1 rfl (lv_at hl 1 rfl) ?_
  refine vx_callr (vx_runV (As := [.int (v)]) (rest := []) ⟨hx, hb, hml, hown, htB⟩ (x_J_jointOf l hlt g z _ h fs jk gk (v)) (cwV 1 htB (gV kw_422 kw_424 ks_0_15 kw_1 g_J_jointOf) rfl rfl rfl (by decide +kernel) ⟨Nat.le_of_ble_eq_true rfl, Nat.le_of_ble_eq_true rfl⟩) (pre_V hS hz ha (va_recv ha.1 hP (ci := 1) (q0 := 0) rfl rfl) ⟨va_pair (hP 0 _ rfl) (hP 2 _ rfl), hf3⟩) rfl rfl hl.1 rfl (lv_room (Nat.le_of_ble_eq_true rfl)) d_J_strength_2 ⟨Nat.le_of_ble_eq_true rfl, Nat.le_of_ble_eq_true rfl⟩) hS (fun q _ h => h.elim) (fun q h => h.elim) (fun q h1 h2 => absurd h1 (Nat.not_lt.mpr h2)) (fun E ce q9 u t H1 locs ht hal hpx hBX hsz hk hS hce hcv hcl => ?_) (fun r_1 u t H1 locs ht hvm hw hB hz1 hk1 hS => ?_)
  · obtain ⟨hE, hkp⟩ := hBX
    exact vx_out (fun x h => (htab x h).elim) hlocks hce hcv hcl (fun t2 ht2 hal2 => ⟨(), trivial, ⟨⟨hE.1, by rw [stF_1 (gp_none hnj (by decide) hq1 hE.2)]⟩, kpt.mv (ht.trans ht2.symm) hkp⟩, (kpt.mv (ht.trans ht2.symm) hkp).1, fun q hq _ => (kpt.mv (ht.trans ht2.symm) hkp).2 q hq⟩) hS.2.2 (Nat.le_of_ble_eq_true rfl) (Nat.le_of_ble_eq_true rfl)
  · obtain ⟨hans, hB⟩ := hB
    obtain rfl := hB.symm.trans ht
    obtain ⟨q, hq, rfl, rfl⟩ := gp_some hq1 hq2 hans
    have hPq := hgk q hq
    have hP := va_app hP hPq
    have hP : va_P g.1 cls [(h, .inr (1, fs)), (pa, ePS g 8 (gp)), (jk, ePK g 12 (gk)), (arw, eI g 5 (rw0)), ((KA q), .inr (2, [.int (nI ((KT q).1)), .int (nI ((KT q).2.1)), .int (nI ((KT q).2.2.1)), .int (nI ((KT q).2.2.2.1)), .long ((KT q).2.2.2.2.1), .long ((KT q).2.2.2.2.2)]))] s.heap := hP
    obtain ⟨hkk, hka, hkb, -⟩ := hkn q hq
    refine lv_astore_n (lv' := [(2, .ref (KA q)), (0, .ref h), (1, .int (nI (q)))]) hx hb d_J_strength_5 rfl hl (by decide) rfl (fun ls hl => ?_)
    refine lv_aload_n hx hb d_J_strength_6 rfl (lv_at hl 1 rfl) ?_
    refine lv_aload_n hx hb d_J_strength_7 rfl (lv_at hl 0 rfl) ?_
    refine va_getN (D := g.1) (ci := 2) (v := .int (nI ((KT q).2.1))) (C := R_K) (T := F_K) (N := 6) hx hb htB in_K hown ha.1 hP 4 rfl rfl 1 (by decide) (va_Nw.use rfl (ha.2.1 _ nb_19)) (fun _ h9 => h9) rfl d_J_strength_8 ?_
    refine va_callr (va_runV (As := [.int (nI ((KT q).2.1))]) (rest := []) ⟨hx, hb, hml, hown, htB⟩ (p_J_solidOf l g z _ h fs pa gp ((KT q).2.1) (PA ((KT q).2.1))) (cwV 1 htB (gV kw_87 kw_89 ks_0_0 kw_1 g_J_solidOf) rfl rfl rfl (by decide +kernel) ⟨by decide, by decide⟩) (pre_V hS hz ha (va_recv ha.1 hP (ci := 1) (q0 := 0) rfl rfl) ⟨va_pair (hP 0 _ rfl) (hP 1 _ rfl), hf0, by omega, hg1 _ (by omega)⟩) rfl rfl hl.1 rfl (lv_room (Nat.le_of_ble_eq_true rfl)) d_J_strength_11 ⟨by decide, by decide⟩) hS (fun q _ h => h.elim) (fun q h => h.elim) (fun u r_2 t H1 locs ht hvm hw hB hz1 hk1 hS => ?_)
    obtain ⟨hans, hB⟩ := hB
    rw [hans]
    obtain rfl := hB.symm.trans ht
    obtain ⟨hPja, hRja, hKja⟩ := hgp ((KT q).2.1) (by omega)
    have hLja := hRja.2.1
    have hP := va_app hP hPja
    have hP : va_P g.1 cls [(h, .inr (1, fs)), (pa, ePS g 8 (gp)), (jk, ePK g 12 (gk)), (arw, eI g 5 (rw0)), ((KA q), .inr (2, [.int (nI ((KT q).1)), .int (nI ((KT q).2.1)), .int (nI ((KT q).2.2.1)), .int (nI ((KT q).2.2.2.1)), .long ((KT q).2.2.2.2.1), .long ((KT q).2.2.2.2.2)])), ((PA ((KT q).2.1)), .inr (0, [.ref (PB ((KT q).2.1)), .int (nI ((PL ((KT q).2.1)).length))])), ((PB ((KT q).2.1)), eI g 144 (PF ((KT q).2.1)))] s.heap := hP
    refine lv_aload_n hx hb d_J_strength_14 rfl (lv_at hl 1 rfl) ?_
    refine lv_aload_n hx hb d_J_strength_15 rfl (lv_at hl 0 rfl) ?_
    refine va_getN (D := g.1) (ci := 2) (v := .int (nI ((KT q).2.2.1))) (C := R_K) (T := F_K) (N := 6) hx hb htB in_K hown ha.1 hP 4 rfl rfl 2 (by decide) (va_Nw.use rfl (ha.2.1 _ nb_20)) (fun _ h9 => h9) rfl d_J_strength_16 ?_
    refine va_callr (va_runV (As := [.int (nI ((KT q).2.2.1))]) (rest := [.ref (PA ((KT q).2.1))]) ⟨hx, hb, hml, hown, htB⟩ (p_J_solidOf l g z _ h fs pa gp ((KT q).2.2.1) (PA ((KT q).2.2.1))) (cwV 1 htB (gV kw_87 kw_89 ks_0_0 kw_1 g_J_solidOf) rfl rfl rfl (by decide +kernel) ⟨by decide, by decide⟩) (pre_V hS hz ha (va_recv ha.1 hP (ci := 1) (q0 := 0) rfl rfl) ⟨va_pair (hP 0 _ rfl) (hP 1 _ rfl), hf0, by omega, hg1 _ (by omega)⟩) rfl rfl hl.1 rfl (lv_room (Nat.le_of_ble_eq_true rfl)) d_J_strength_19 ⟨by decide, by decide⟩) hS (fun q _ h => h.elim) (fun q h => h.elim) (fun u r_3 t H1 locs ht hvm hw hB hz1 hk1 hS => ?_)
    obtain ⟨hans, hB⟩ := hB
    rw [hans]
    obtain rfl := hB.symm.trans ht
    obtain ⟨hPjb, hRjb, hKjb⟩ := hgp ((KT q).2.2.1) (by omega)
    have hLjb := hRjb.2.1
    have hP := va_app hP hPjb
    have hP : va_P g.1 cls [(h, .inr (1, fs)), (pa, ePS g 8 (gp)), (jk, ePK g 12 (gk)), (arw, eI g 5 (rw0)), ((KA q), .inr (2, [.int (nI ((KT q).1)), .int (nI ((KT q).2.1)), .int (nI ((KT q).2.2.1)), .int (nI ((KT q).2.2.2.1)), .long ((KT q).2.2.2.2.1), .long ((KT q).2.2.2.2.2)])), ((PA ((KT q).2.1)), .inr (0, [.ref (PB ((KT q).2.1)), .int (nI ((PL ((KT q).2.1)).length))])), ((PB ((KT q).2.1)), eI g 144 (PF ((KT q).2.1))), ((PA ((KT q).2.2.1)), .inr (0, [.ref (PB ((KT q).2.2.1)), .int (nI ((PL ((KT q).2.2.1)).length))])), ((PB ((KT q).2.2.1)), eI g 144 (PF ((KT q).2.2.1)))] s.heap := hP
    refine va_calll (va_runS (As := [.ref (PA ((KT q).2.1)), .ref (PA ((KT q).2.2.1))]) (rest := []) ⟨hx, hb, hml, hown, htB⟩ (p_J_areaOfBoth l g z _ (PA ((KT q).2.1)) (PB ((KT q).2.1)) ((PL ((KT q).2.1)).length) (PA ((KT q).2.2.1)) (PB ((KT q).2.2.1)) ((PL ((KT q).2.2.1)).length) (PF ((KT q).2.1)) (PF ((KT q).2.2.1))) (va_cwS 2 htB (gS kw_390 kw_391 kw_1 g_J_areaOfBoth) rfl rfl rfl (by decide +kernel) ⟨by decide, by decide⟩) (pre_S hS hz ha ⟨va_app (va_pair (hP 5 _ rfl) (hP 6 _ rfl)) (va_pair (hP 7 _ rfl) (hP 8 _ rfl)), by omega, by omega⟩) rfl rfl hl.1 rfl (lv_room (Nat.le_of_ble_eq_true rfl)) d_J_strength_22 ⟨by decide, by decide⟩) hS (fun q _ h => h.elim) (fun q h => h.elim) (fun r_4 u t H1 locs ht hvm hw hB hz1 hk1 hS => ?_)
    obtain rfl := hB.symm.trans ht
    subst hw
    refine lv_aload_n hx hb d_J_strength_25 rfl (lv_at hl 1 rfl) ?_
    refine va_get (D := g.1) (ci := 1) (v := .ref arw) (C := R_J) (T := F_J) (N := 14) hx hb htB in_J hown ha.1 hP 0 rfl rfl 5 (by decide) (htB _ kw_45) (fun _ h9 => h9) hf5 d_J_strength_26 ?_
    refine lv_aload_n hx hb d_J_strength_29 rfl (lv_at hl 0 rfl) ?_
    refine va_getN (D := g.1) (ci := 2) (v := .int (nI ((KT q).1))) (C := R_K) (T := F_K) (N := 6) hx hb htB in_K hown ha.1 hP 4 rfl rfl 0 (by decide) (va_Nw.use rfl (ha.2.1 _ nb_18)) (fun _ h9 => h9) rfl d_J_strength_30 ?_
    refine ja_ald (k := (KT q).1) hx hb ha.1 hP 3 0 rfl rfl (by omega) (by omega) d_J_strength_33 ?_
    refine lv_i2l (v := ((rw0 ((KT q).1))).toInt64) hx hb d_J_strength_34 rfl ?_
    refine lv_lmul hx hb d_J_strength_35 ?_
    refine lv_ldc2 hx hb hown (htB _ kw_427) d_J_strength_36 ?_
    refine lv_ldiv hx hb d_J_strength_39 (by decide) ?_
    exact vx_ret (W.widen (k := 1) (n := 6) (Nat.le_of_ble_eq_true rfl) (Nat.le_of_ble_eq_true rfl) (W.lret (v := (((arB (PF ((KT q).2.1)) ((PL ((KT q).2.1)).length) (PF ((KT q).2.2.1)) ((PL ((KT q).2.2.1)).length)) * (((rw0 ((KT q).1))).toInt64)) / (100))) hx hb hr (fun t ht hW => ⟨⟨(((arB (PF ((KT q).2.1)) ((PL ((KT q).2.1)).length) (PF ((KT q).2.2.1)) ((PL ((KT q).2.2.1)).length)) * (((rw0 ((KT q).1))).toInt64)) / (100)), (), rfl, by rw [stF_0 hq hnj, arB_L, hRja.2.2, hRjb.2.2], ht⟩, hS.F ht⟩) hS.2.2 d_J_strength_40))
set_option maxHeartbeats 4000000 in
set_option maxRecDepth 100000 in
theorem x_J_about (l : Launch) (hlt : l.stackTraces = false) (g : gT) (z : Nat) (H0 : Heap) (h : Nat) (fs : List Value) (jk : Nat) (nj : Nat) (gk : Nat → Option Nat) (KA : Nat → Nat) (KT : Nat → kT) (v wv : Int32) : vx_Met l y_J_about w_J_about ({ frames := 7, cells := 2, slots := 12, locals := 103 }) (va_Pc [.ref h, .int (v), .int (wv)] (pB g z H0 (va_P g.1 cls [(h, .inr (1, fs)), (jk, ePK g 12 gk)] H0 ∧ fs[3]? = some (.ref jk) ∧ kP g H0 nj gk KA KT))) (va_Ql (fun (rr : Int64) (_ : Unit) => abF nj KT v wv = (0, rr)) (fun _ t => t.heap = H0) nA) (xX (fun E => E = E_IOB ∧ (abF nj KT v wv).1 = 1) H0) 2 12 nA := by
  refine vx_ofW (cc := c_J_about) (maxL := 4) (ret := (some .long)) (by decide) rfl ?_
  intro p e s m args below meth c s₁ B hml htab hv
  obtain ⟨rfl, hH0, ha, hP, hf3, hnj, hq1, hq2, hgk⟩ := hv
  have hx := B.exec
  have hb := B.bytes
  have hr := B.returns
  have htB : ∀ w ∈ tB, w.before _ s = true := fun w h => atoms_spec (ws := w_J_about) B.pre w (List.mem_cons_of_mem _ h)
  have hown : s.vm.findClass "JointSolids" = some m.cls := findClass_of_methodNamed B.named
  have hlocks := B.notSynchronized
  subst hH0
  have hz : ∀ q, nA q → z ≤ q := nA_z
  have hS : va_S nA s.heap s.heap [] := va_S.rf
  have hl := lv_entry ([.ref h, .int (v), .int (wv)]) (n := 4) (Nat.le_of_ble_eq_true rfl)
  rw [lg_entry_eq]
  generalize (lg_sl ([.ref h, .int (v), .int (wv)]) ++ List.replicate (4 - (lg_sl ([.ref h, .int (v), .int (wv)])).length) Slot.unset).toArray = ls at hl ⊢
  have hl : lv_has ls 4 [(0, .ref h), (1, .int (v)), (2, .int (wv))] := hl
  refine lv_aload_n hx hb d_J_about_0 rfl (lv_at hl 0 rfl) ?_
  refine lv_iload_n hx hb d_J_about_1 rfl (lv_at hl 1 rfl) ?_
  refine vx_callr (vx_runV (As := [.int (v)]) (rest := []) ⟨hx, hb, hml, hown, htB⟩ (x_J_jointOf l hlt g z _ h fs jk gk (v)) (cwV 1 htB (gV kw_422 kw_424 ks_0_15 kw_1 g_J_jointOf) rfl rfl rfl (by decide +kernel) ⟨Nat.le_of_ble_eq_true rfl, Nat.le_of_ble_eq_true rfl⟩) (pre_V hS hz ha (va_recv ha.1 hP (ci := 1) (q0 := 0) rfl rfl) ⟨va_pair (hP 0 _ rfl) (hP 1 _ rfl), hf3⟩) rfl rfl hl.1 rfl (lv_room (Nat.le_of_ble_eq_true rfl)) d_J_about_2 ⟨Nat.le_of_ble_eq_true rfl, Nat.le_of_ble_eq_true rfl⟩) hS (fun q _ h => h.elim) (fun q h => h.elim) (fun q h1 h2 => absurd h1 (Nat.not_lt.mpr h2)) (fun E ce q9 u t H1 locs ht hal hpx hBX hsz hk hS hce hcv hcl => ?_) (fun r_1 u t H1 locs ht hvm hw hB hz1 hk1 hS => ?_)
  · obtain ⟨hE, hkp⟩ := hBX
    exact vx_out (fun x h => (htab x h).elim) hlocks hce hcv hcl (fun t2 ht2 hal2 => ⟨(), trivial, ⟨⟨hE.1, by rw [abF_1 (Or.inl (gp_none hnj (by decide) hq1 hE.2))]⟩, kpt.mv (ht.trans ht2.symm) hkp⟩, (kpt.mv (ht.trans ht2.symm) hkp).1, fun q hq _ => (kpt.mv (ht.trans ht2.symm) hkp).2 q hq⟩) hS.2.2 (Nat.le_of_ble_eq_true rfl) (Nat.le_of_ble_eq_true rfl)
  · obtain ⟨hans, hB⟩ := hB
    obtain rfl := hB.symm.trans ht
    obtain ⟨q, hq, rfl, rfl⟩ := gp_some hq1 hq2 hans
    have hPq := hgk q hq
    have hP := va_app hP hPq
    have hP : va_P g.1 cls [(h, .inr (1, fs)), (jk, ePK g 12 (gk)), ((KA q), .inr (2, [.int (nI ((KT q).1)), .int (nI ((KT q).2.1)), .int (nI ((KT q).2.2.1)), .int (nI ((KT q).2.2.2.1)), .long ((KT q).2.2.2.2.1), .long ((KT q).2.2.2.2.2)]))] s.heap := hP
    refine lv_astore_n (lv' := [(3, .ref (KA q)), (0, .ref h), (1, .int (nI (q))), (2, .int (wv))]) hx hb d_J_about_5 rfl hl (by decide) rfl (fun ls hl => ?_)
    refine lv_iload_n hx hb d_J_about_6 rfl (lv_at hl 3 rfl) ?_
    by_cases hwv : noP wv 6
    · refine lv_tableOut (tgt := 78) hx hb d_J_about_7 (noP_int (n := 5) hwv (by decide)) (by decide) ?_
      exact thr_IOB hx hb hlt hown htB ha hz sB_203 hS (hl.1.trans hml.symm) htab d_J_about_78 d_J_about_81 d_J_about_82 d_J_about_84 d_J_about_87 (Nat.le_of_ble_eq_true rfl) (Nat.le_of_ble_eq_true rfl) (Nat.le_of_ble_eq_true rfl) (Nat.le_of_ble_eq_true rfl) hlocks (fun t _ h1 h2 => ⟨(), trivial, ⟨⟨rfl, by rw [abF_1 (Or.inr hwv)]⟩, h1, h2⟩, h1, fun q hq _ => h2 q hq⟩) hS.2.2 (Nat.le_of_ble_eq_true rfl) (Nat.le_of_ble_eq_true rfl)
    · obtain ⟨i, hi, rfl⟩ := noP_not (n := 6) (by decide) hwv
      rcases (show i = 0 ∨ i = 1 ∨ i = 2 ∨ i = 3 ∨ i = 4 ∨ i = 5 by omega) with rfl | rfl | rfl | rfl | rfl | rfl
      · refine lv_tableIn (off := 37) (tgt := 44) hx hb d_J_about_7 (by decide) (by decide) rfl (by decide) ?_
        refine lv_aload_n hx hb d_J_about_44 rfl (lv_at hl 0 rfl) ?_
        refine va_getN (D := g.1) (ci := 2) (v := .int (nI ((KT q).1))) (C := R_K) (T := F_K) (N := 6) hx hb htB in_K hown ha.1 hP 2 rfl rfl 0 (by decide) (va_Nw.use rfl (ha.2.1 _ nb_18)) (fun _ h9 => h9) rfl d_J_about_45 ?_
        refine lv_i2l (v := ((nI ((KT q).1))).toInt64) hx hb d_J_about_48 rfl ?_
        exact vx_ret (W.widen (k := 2) (n := 12) (Nat.le_of_ble_eq_true rfl) (Nat.le_of_ble_eq_true rfl) (W.lret (v := (((nI ((KT q).1))).toInt64)) hx hb hr (fun t ht hW => ⟨⟨(((nI ((KT q).1))).toInt64), (), rfl, by rw [abF_0 hq hnj hi]; rfl, ht⟩, hS.F ht⟩) hS.2.2 d_J_about_49))
      · refine lv_tableIn (off := 43) (tgt := 50) hx hb d_J_about_7 (by decide) (by decide) rfl (by decide) ?_
        refine lv_aload_n hx hb d_J_about_50 rfl (lv_at hl 0 rfl) ?_
        refine va_getN (D := g.1) (ci := 2) (v := .int (nI ((KT q).2.1))) (C := R_K) (T := F_K) (N := 6) hx hb htB in_K hown ha.1 hP 2 rfl rfl 1 (by decide) (va_Nw.use rfl (ha.2.1 _ nb_19)) (fun _ h9 => h9) rfl d_J_about_51 ?_
        refine lv_i2l (v := ((nI ((KT q).2.1))).toInt64) hx hb d_J_about_54 rfl ?_
        exact vx_ret (W.widen (k := 2) (n := 12) (Nat.le_of_ble_eq_true rfl) (Nat.le_of_ble_eq_true rfl) (W.lret (v := (((nI ((KT q).2.1))).toInt64)) hx hb hr (fun t ht hW => ⟨⟨(((nI ((KT q).2.1))).toInt64), (), rfl, by rw [abF_0 hq hnj hi]; rfl, ht⟩, hS.F ht⟩) hS.2.2 d_J_about_55))
      · refine lv_tableIn (off := 49) (tgt := 56) hx hb d_J_about_7 (by decide) (by decide) rfl (by decide) ?_
        refine lv_aload_n hx hb d_J_about_56 rfl (lv_at hl 0 rfl) ?_
        refine va_getN (D := g.1) (ci := 2) (v := .int (nI ((KT q).2.2.1))) (C := R_K) (T := F_K) (N := 6) hx hb htB in_K hown ha.1 hP 2 rfl rfl 2 (by decide) (va_Nw.use rfl (ha.2.1 _ nb_20)) (fun _ h9 => h9) rfl d_J_about_57 ?_
        refine lv_i2l (v := ((nI ((KT q).2.2.1))).toInt64) hx hb d_J_about_60 rfl ?_
        exact vx_ret (W.widen (k := 2) (n := 12) (Nat.le_of_ble_eq_true rfl) (Nat.le_of_ble_eq_true rfl) (W.lret (v := (((nI ((KT q).2.2.1))).toInt64)) hx hb hr (fun t ht hW => ⟨⟨(((nI ((KT q).2.2.1))).toInt64), (), rfl, by rw [abF_0 hq hnj hi]; rfl, ht⟩, hS.F ht⟩) hS.2.2 d_J_about_61))
      · refine lv_tableIn (off := 55) (tgt := 62) hx hb d_J_about_7 (by decide) (by decide) rfl (by decide) ?_
        refine lv_aload_n hx hb d_J_about_62 rfl (lv_at hl 0 rfl) ?_
        refine va_getN (D := g.1) (ci := 2) (v := .int (nI ((KT q).2.2.2.1))) (C := R_K) (T := F_K) (N := 6) hx hb htB in_K hown ha.1 hP 2 rfl rfl 3 (by decide) (va_Nw.use rfl (ha.2.1 _ nb_21)) (fun _ h9 => h9) rfl d_J_about_63 ?_
        refine lv_i2l (v := ((nI ((KT q).2.2.2.1))).toInt64) hx hb d_J_about_66 rfl ?_
        exact vx_ret (W.widen (k := 2) (n := 12) (Nat.le_of_ble_eq_true rfl) (Nat.le_of_ble_eq_true rfl) (W.lret (v := (((nI ((KT q).2.2.2.1))).toInt64)) hx hb hr (fun t ht hW => ⟨⟨(((nI ((KT q).2.2.2.1))).toInt64), (), rfl, by rw [abF_0 hq hnj hi]; rfl, ht⟩, hS.F ht⟩) hS.2.2 d_J_about_67))
      · refine lv_tableIn (off := 61) (tgt := 68) hx hb d_J_about_7 (by decide) (by decide) rfl (by decide) ?_
        refine lv_aload_n hx hb d_J_about_68 rfl (lv_at hl 0 rfl) ?_
        refine va_getN (D := g.1) (ci := 2) (v := .long ((KT q).2.2.2.2.1)) (C := R_K) (T := F_K) (N := 6) hx hb htB in_K hown ha.1 hP 2 rfl rfl 4 (by decide) (va_Nw.use rfl (ha.2.1 _ nb_22)) (fun _ h9 => h9) rfl d_J_about_69 ?_
        exact vx_ret (W.widen (k := 2) (n := 12) (Nat.le_of_ble_eq_true rfl) (Nat.le_of_ble_eq_true rfl) (W.lret (v := ((KT q).2.2.2.2.1)) hx hb hr (fun t ht hW => ⟨⟨((KT q).2.2.2.2.1), (), rfl, by rw [abF_0 hq hnj hi]; rfl, ht⟩, hS.F ht⟩) hS.2.2 d_J_about_72))
      · refine lv_tableIn (off := 66) (tgt := 73) hx hb d_J_about_7 (by decide) (by decide) rfl (by decide) ?_
        refine lv_aload_n hx hb d_J_about_73 rfl (lv_at hl 0 rfl) ?_
        refine va_getN (D := g.1) (ci := 2) (v := .long ((KT q).2.2.2.2.2)) (C := R_K) (T := F_K) (N := 6) hx hb htB in_K hown ha.1 hP 2 rfl rfl 5 (by decide) (va_Nw.use rfl (ha.2.1 _ nb_23)) (fun _ h9 => h9) rfl d_J_about_74 ?_
        exact vx_ret (W.widen (k := 2) (n := 12) (Nat.le_of_ble_eq_true rfl) (Nat.le_of_ble_eq_true rfl) (W.lret (v := ((KT q).2.2.2.2.2)) hx hb hr (fun t ht hW => ⟨⟨((KT q).2.2.2.2.2), (), rfl, by rw [abF_0 hq hnj hi]; rfl, ht⟩, hS.F ht⟩) hS.2.2 d_J_about_77))
set_option maxHeartbeats 4000000 in
set_option maxRecDepth 100000 in
theorem p_J_first (l : Launch) (g : gT) (z : Nat) (H0 : Heap) (h : Nat) (fs : List Value) (pa np : Nat) (gp : Nat → Option Nat) (PA PB : Nat → Nat) (PF : Nat → Nat → Int32) (PL : Nat → List Bx) : Met l y_J_first w_J_first ({ frames := 4, cells := 0, slots := 0, locals := 90 }) (va_Pc [.ref h] (pB g z H0 (va_P g.1 cls [(h, .inr (1, fs)), (pa, ePS g 8 gp)] H0 ∧ fs[0]? = some (.ref pa) ∧ fs[1]? = some (.int (nI np)) ∧ pP g H0 np gp PA PB PF PL))) (va_Qi (fun (rr : Int32) (_ : Unit) => fiR np PL rr) (fun _ t => t.heap = H0) nA) 0 0 nA := by
  refine Met.ofW (cc := c_J_first) (maxL := 3) (ret := (some .int)) (by decide) rfl ?_
  intro p e s m args below meth c s₁ B hml hv
  obtain ⟨rfl, hH0, ha, hP, hf0, hf1, hnp, hg1, hg2, hgp⟩ := hv
  have hx := B.exec
  have hb := B.bytes
  have hr := B.returns
  have htB : ∀ w ∈ tB, w.before _ s = true := fun w h => atoms_spec (ws := w_J_first) B.pre w (List.mem_cons_of_mem _ h)
  have hown : s.vm.findClass "JointSolids" = some m.cls := findClass_of_methodNamed B.named
  have hlocks := B.notSynchronized
  subst hH0
  have hz : ∀ q, nA q → z ≤ q := nA_z
  have hS : va_S nA s.heap s.heap [] := va_S.rf
  have hl := lv_entry ([.ref h]) (n := 3) (Nat.le_of_ble_eq_true rfl)
  rw [lg_entry_eq]
  generalize (lg_sl ([.ref h]) ++ List.replicate (3 - (lg_sl ([.ref h])).length) Slot.unset).toArray = ls at hl ⊢
  have hl : lv_has ls 3 [(0, .ref h)] := hl
  refine lv_iconst (v := (nI (0))) hx hb d_J_first_0 (by decide) ?_
  refine lv_istore_n (lv' := [(1, .int (nI (0))), (0, .ref h)]) hx hb d_J_first_1 rfl hl (by decide) rfl (fun ls hl => ?_)
  refine W.loop (N := np) (X := fun i ls locs H => i ≤ np ∧ H = s.heap ∧ (∀ a b : Nat, a < i → a < b → b < np → ¬ 0 < ovL (PL a) (PL b)) ∧ lv_has ls 3 [(0, .ref h), (1, .int (nI (i)))] ∧ va_S nA s.heap H locs) 0 ⟨Nat.zero_le _, rfl, (fun a b h1 _ _ => absurd h1 (Nat.not_lt_zero a)), lv_sub hl [1, 0] rfl, hS⟩ (fun n_1 ih_2 i ls locs H hn_i hi_i hX => ?_) (fun _ _ _ _ hX => hX.1)
  obtain ⟨-, rfl, heq, hl, hS⟩ := hX
  refine lv_iload_n hx hb d_J_first_2 rfl (lv_at hl 1 rfl) ?_
  refine lv_aload_n hx hb d_J_first_3 rfl (lv_at hl 0 rfl) ?_
  refine va_get (D := g.1) (ci := 1) (v := .int (nI (np))) (C := R_J) (T := F_J) (N := 14) hx hb htB in_J hown ha.1 hP 0 rfl rfl 1 (by decide) (htB _ kw_41) (fun _ h9 => h9) hf1 d_J_first_4 ?_
  refine jv_icmp_ge (tgt := 59) hx hb (by omega) (by omega) d_J_first_7 (by decide) (fun c_3 => ?_) (fun c_3 => ?_)
  · refine lv_iconst (v := ((-1))) hx hb d_J_first_59 (by decide) ?_
    exact W.iret (v := ((-1))) hx hb hr (fun t ht hW => ⟨⟨((-1)), (), rfl, Or.inr ⟨rfl, fun a b h1 h2 => heq a b (by omega) h1 h2⟩, ht⟩, hS.F ht⟩) hS.2.2 d_J_first_60
  · refine lv_iload_n hx hb d_J_first_10 rfl (lv_at hl 1 rfl) ?_
    refine lv_iconst (v := (nI (1))) hx hb d_J_first_11 (by decide) ?_
    refine jv_iadd hx hb d_J_first_12 ?_
    refine lv_istore_n (lv' := [(2, .int (nI (i + 1))), (0, .ref h), (1, .int (nI (i)))]) hx hb d_J_first_13 rfl hl (by decide) rfl (fun ls hl => ?_)
    have hout := heq
    refine W.loop (N := np) (X := fun k ls locs H => k ≤ np ∧ H = s.heap ∧ (∀ b : Nat, i < b → b < k → ¬ 0 < ovL (PL i) (PL b)) ∧ lv_has ls 3 [(0, .ref h), (1, .int (nI (i))), (2, .int (nI (k)))] ∧ va_S nA s.heap H locs ∧ i < k) (i + 1) ⟨by omega, rfl, (fun b h1 h2 => absurd h2 (by omega)), lv_sub hl [1, 2, 0] rfl, hS, Nat.lt_succ_self i⟩ (fun n_4 ih_5 k ls locs H hn_k hi_k hX => ?_) (fun _ _ _ _ hX => hX.1)
    obtain ⟨-, rfl, heq, hl, hS, hik⟩ := hX
    refine lv_iload_n hx hb d_J_first_14 rfl (lv_at hl 2 rfl) ?_
    refine lv_aload_n hx hb d_J_first_15 rfl (lv_at hl 0 rfl) ?_
    refine va_get (D := g.1) (ci := 1) (v := .int (nI (np))) (C := R_J) (T := F_J) (N := 14) hx hb htB in_J hown ha.1 hP 0 rfl rfl 1 (by decide) (htB _ kw_41) (fun _ h9 => h9) hf1 d_J_first_16 ?_
    refine jv_icmp_ge (tgt := 53) hx hb (by omega) (by omega) d_J_first_19 (by decide) (fun c_6 => ?_) (fun c_6 => ?_)
    · refine lv_iinc (v := nI (i + 1)) (lv' := [(1, .int (nI (i + 1))), (0, .ref h), (2, .int (nI (k)))]) hx hb d_J_first_53 hl (k := 1) rfl (nI_add _ 1) (by decide) rfl (fun ls hl => ?_)
      refine lv_goto (tgt := 2) hx hb d_J_first_56 (by decide) ?_
      exact ih_2 (i + 1) ls locs _ (by omega) ⟨by omega, rfl, (fun a b h1 h2 h3 => by (by_cases q : a = i); (· subst q; exact heq b h2 (by omega)); (· exact hout a b (by omega) h2 h3)), lv_sub (l' := [(0, .ref h), (1, .int (nI (i + 1)))]) hl [1, 0] rfl, hS⟩
    · refine lv_aload_n hx hb d_J_first_22 rfl (lv_at hl 0 rfl) ?_
      refine lv_iload_n hx hb d_J_first_23 rfl (lv_at hl 1 rfl) ?_
      refine va_callr (va_runV (As := [.int (nI (i))]) (rest := []) ⟨hx, hb, hml, hown, htB⟩ (p_J_solidOf l g z _ h fs pa gp (i) (PA (i))) (cwV 1 htB (gV kw_87 kw_89 ks_0_0 kw_1 g_J_solidOf) rfl rfl rfl (by decide +kernel) ⟨by decide, by decide⟩) (pre_V hS hz ha (va_recv ha.1 hP (ci := 1) (q0 := 0) rfl rfl) ⟨va_pair (hP 0 _ rfl) (hP 1 _ rfl), hf0, by omega, hg1 _ (by omega)⟩) rfl rfl hl.1 rfl (lv_room (Nat.le_of_ble_eq_true rfl)) d_J_first_24 ⟨by decide, by decide⟩) hS (fun q _ h => h.elim) (fun q h => h.elim) (fun u r_7 t H1 locs ht hvm hw hB hz1 hk1 hS => ?_)
      obtain ⟨hans, hB⟩ := hB
      rw [hans]
      obtain rfl := hB.symm.trans ht
      obtain ⟨hPja, hRja, hKja⟩ := hgp (i) (by omega)
      have hLja := hRja.2.1
      have hP := va_app hP hPja
      have hP : va_P g.1 cls [(h, .inr (1, fs)), (pa, ePS g 8 (gp)), ((PA (i)), .inr (0, [.ref (PB (i)), .int (nI ((PL (i)).length))])), ((PB (i)), eI g 144 (PF (i)))] s.heap := hP
      refine lv_aload_n hx hb d_J_first_27 rfl (lv_at hl 0 rfl) ?_
      refine lv_iload_n hx hb d_J_first_28 rfl (lv_at hl 2 rfl) ?_
      refine va_callr (va_runV (As := [.int (nI (k))]) (rest := [.ref (PA (i))]) ⟨hx, hb, hml, hown, htB⟩ (p_J_solidOf l g z _ h fs pa gp (k) (PA (k))) (cwV 1 htB (gV kw_87 kw_89 ks_0_0 kw_1 g_J_solidOf) rfl rfl rfl (by decide +kernel) ⟨by decide, by decide⟩) (pre_V hS hz ha (va_recv ha.1 hP (ci := 1) (q0 := 0) rfl rfl) ⟨va_pair (hP 0 _ rfl) (hP 1 _ rfl), hf0, by omega, hg1 _ (by omega)⟩) rfl rfl hl.1 rfl (lv_room (Nat.le_of_ble_eq_true rfl)) d_J_first_29 ⟨by decide, by decide⟩) hS (fun q _ h => h.elim) (fun q h => h.elim) (fun u r_8 t H1 locs ht hvm hw hB hz1 hk1 hS => ?_)
      obtain ⟨hans, hB⟩ := hB
      rw [hans]
      obtain rfl := hB.symm.trans ht
      obtain ⟨hPjb, hRjb, hKjb⟩ := hgp (k) (by omega)
      have hLjb := hRjb.2.1
      have hP := va_app hP hPjb
      have hP : va_P g.1 cls [(h, .inr (1, fs)), (pa, ePS g 8 (gp)), ((PA (i)), .inr (0, [.ref (PB (i)), .int (nI ((PL (i)).length))])), ((PB (i)), eI g 144 (PF (i))), ((PA (k)), .inr (0, [.ref (PB (k)), .int (nI ((PL (k)).length))])), ((PB (k)), eI g 144 (PF (k)))] s.heap := hP
      refine va_calll (va_runS (As := [.ref (PA (i)), .ref (PA (k))]) (rest := []) ⟨hx, hb, hml, hown, htB⟩ (p_J_volumeOfBoth l g z _ (PA (i)) (PB (i)) ((PL (i)).length) (PA (k)) (PB (k)) ((PL (k)).length) (PF (i)) (PF (k))) (va_cwS 2 htB (gS kw_159 kw_160 kw_1 g_J_volumeOfBoth) rfl rfl rfl (by decide +kernel) ⟨by decide, by decide⟩) (pre_S hS hz ha ⟨va_app (va_pair (hP 2 _ rfl) (hP 3 _ rfl)) (va_pair (hP 4 _ rfl) (hP 5 _ rfl)), by omega, by omega⟩) rfl rfl hl.1 rfl (lv_room (Nat.le_of_ble_eq_true rfl)) d_J_first_32 ⟨by decide, by decide⟩) hS (fun q _ h => h.elim) (fun q h => h.elim) (fun r_9 u t H1 locs ht hvm hw hB hz1 hk1 hS => ?_)
      obtain rfl := hB.symm.trans ht
      subst hw
      rw [show volB (PF (i)) ((PL (i)).length) (PF (k)) ((PL (k)).length) = ovL (PL i) (PL k) from by rw [volB_L, hRja.2.2, hRjb.2.2]]
      refine lv_lconst (v := 0) hx hb d_J_first_35 (by decide) ?_
      refine W.lcmp hx hb d_J_first_36 ?_
      refine lv_if_le (tgt := 47) hx hb d_J_first_37 (by decide) (fun c_10 => ?_) (fun c_10 => ?_)
      · refine lv_iinc (v := nI (k + 1)) (lv' := [(2, .int (nI (k + 1))), (0, .ref h), (1, .int (nI (i)))]) hx hb d_J_first_47 hl (k := 2) rfl (nI_add _ 1) (by decide) rfl (fun ls hl => ?_)
        refine lv_goto (tgt := 14) hx hb d_J_first_50 (by decide) ?_
        exact ih_5 (k + 1) ls locs _ (by omega) ⟨by omega, rfl, (fun b h1 h2 => by (by_cases q : b = k); (· subst q; exact vol_no c_10); (· exact heq b h1 (by omega))), lv_sub (l' := [(0, .ref h), (1, .int (nI (i))), (2, .int (nI (k + 1)))]) hl [1, 2, 0] rfl, hS, by omega⟩
      · refine lv_bipush (v := (nI (8))) hx hb d_J_first_40 (by decide) ?_
        refine lv_iload_n hx hb d_J_first_42 rfl (lv_at hl 1 rfl) ?_
        refine jv_imul hx hb d_J_first_43 ?_
        refine lv_iload_n hx hb d_J_first_44 rfl (lv_at hl 2 rfl) ?_
        refine jv_iadd hx hb d_J_first_45 ?_
        exact W.iret (v := (nI ((8 * i) + k))) hx hb hr (fun t ht hW => ⟨⟨(nI ((8 * i) + k)), (), rfl, Or.inl ⟨i, k, by omega, by omega, vol_pos c_10, rfl, fun a b h1 h2 h3 => h3.elim (fun q => hout a b q h1 h2) (fun q => by obtain ⟨q1, q2⟩ := q; subst q1; exact heq b h1 q2)⟩, ht⟩, hS.F ht⟩) hS.2.2 d_J_first_46
