set_option maxHeartbeats 4000000 in
set_option maxRecDepth 100000 in
theorem m_M_strength (l : Launch) (g : gT) (z : Nat) (H0 : Heap) (h : Nat) (fs : List Value) (ap am akd afi ase arw np nj : Nat) (f mn kd fi se rw0 : Nat → Int32) (v : Int32) : Met l y_M_strength w_M_strength ({ frames := 3, cells := 0, slots := 0, locals := 76 }) (va_Pc [.ref h, .int (v)] (pB g z H0 (va_P g.1 cls [(h, .inr (3, fs)), (ap, eI g 1152 (f)), (am, eI g 8 (mn)), (akd, eI g 12 (kd)), (afi, eI g 12 (fi)), (ase, eI g 12 (se)), (arw, eI g 5 (rw0))] H0 ∧ va_D (zA z) [(h, .inr (3, fs)), (ap, eI g 1152 (f)), (am, eI g 8 (mn)), (akd, eI g 12 (kd)), (afi, eI g 12 (fi)), (ase, eI g 12 (se)), (arw, eI g 5 (rw0))] ∧ (fs.length = 19 ∧ fs[3]? = some (.ref ap) ∧ fs[4]? = some (.ref am) ∧ fs[11]? = some (.int (nI nj)) ∧ fs[12]? = some (.ref akd) ∧ fs[13]? = some (.ref afi) ∧ fs[14]? = some (.ref ase) ∧ fs[18]? = some (.ref arw) ∧ np ≤ 8 ∧ nj ≤ 12 ∧ (∀ j, j < np → ∃ n : Nat, n ≤ 24 ∧ mn j = nI n) ∧ (∀ q, q < nj → ∃ kq ja jb : Nat, kq < 5 ∧ ja < np ∧ jb < np ∧ kd q = nI kq ∧ fi q = nI ja ∧ se q = nI jb))))) (va_Ql (fun (rr : Int64) (u : List Value) => (noP v nj ∧ u = fs.set 0 (.int (nI 1)) ∧ rr = 0) ∨ (∃ q kq ja jb na nb : Nat, q < nj ∧ v = nI q ∧ kd q = nI kq ∧ fi q = nI ja ∧ se q = nI jb ∧ kq < 5 ∧ ja < np ∧ jb < np ∧ na ≤ 24 ∧ mn ja = nI na ∧ nb ≤ 24 ∧ mn jb = nI nb ∧ u = fs.set 0 (.int (nI 0)) ∧ rr = toM f ja na jb nb * (rw0 kq).toInt64 / 100)) (fun (u : List Value) t => va_P g.1 cls [(h, .inr (3, u)), (ap, eI g 1152 (f)), (am, eI g 8 (mn)), (akd, eI g 12 (kd)), (afi, eI g 12 (fi)), (ase, eI g 12 (se)), (arw, eI g 5 (rw0))] t.heap ∧ va_D (va_A [(h, .inr (3, fs)), (ap, eI g 1152 (f)), (am, eI g 8 (mn)), (akd, eI g 12 (kd)), (afi, eI g 12 (fi)), (ase, eI g 12 (se)), (arw, eI g 5 (rw0))] H0.size) [(h, .inr (3, u)), (ap, eI g 1152 (f)), (am, eI g 8 (mn)), (akd, eI g 12 (kd)), (afi, eI g 12 (fi)), (ase, eI g 12 (se)), (arw, eI g 5 (rw0))]) (va_A [(h, .inr (3, fs)), (ap, eI g 1152 (f)), (am, eI g 8 (mn)), (akd, eI g 12 (kd)), (afi, eI g 12 (fi)), (ase, eI g 12 (se)), (arw, eI g 5 (rw0))] H0.size)) 0 0 (va_A [(h, .inr (3, fs)), (ap, eI g 1152 (f)), (am, eI g 8 (mn)), (akd, eI g 12 (kd)), (afi, eI g 12 (fi)), (ase, eI g 12 (se)), (arw, eI g 5 (rw0))] H0.size) := by
  refine Met.ofW (cc := c_M_strength) (maxL := 2) (ret := (some .long)) (by decide) rfl ?_
  intro p e s m args below meth c s₁ B hml hv
  obtain ⟨rfl, hH0, ha, hP, hD0, hlen, hf3, hf4, hf11, hf12, hf13, hf14, hf18, hnp, hnj, hmn, hjn⟩ := hv
  have hx := B.exec
  have hb := B.bytes
  have hr := B.returns
  have htB : ∀ w ∈ tB, w.before _ s = true := fun w h => atoms_spec (ws := w_M_strength) B.pre w (List.mem_cons_of_mem _ h)
  have hown : s.vm.findClass "JointSolidsModel" = some m.cls := findClass_of_methodNamed B.named
  have hlocks := B.notSynchronized
  subst hH0
  have hD := hD0.self (sz := s.heap.size)
  have hz := aA_z hD0 ha.2.2.2.2.2
  generalize hAe : va_A [(h, .inr (3, fs)), (ap, eI g 1152 (f)), (am, eI g 8 (mn)), (akd, eI g 12 (kd)), (afi, eI g 12 (fi)), (ase, eI g 12 (se)), (arw, eI g 5 (rw0))] s.heap.size = A at hD hz ⊢
  have hA : ∀ q : Nat, s.heap.size ≤ q → A q := fun q h => by rw [← hAe]; exact Or.inr h
  have hS : va_S A s.heap s.heap [] := va_S.rf
  refine W.ofH hP hS (fun H locs hP hS => ?_)
  have hl := lv_entry ([.ref h, .int (v)]) (n := 2) (Nat.le_of_ble_eq_true rfl)
  rw [lg_entry_eq]
  generalize (lg_sl ([.ref h, .int (v)]) ++ List.replicate (2 - (lg_sl ([.ref h, .int (v)])).length) Slot.unset).toArray = ls at hl ⊢
  have hl : lv_has ls 2 [(0, .ref h), (1, .int (v))] := hl
  refine lv_aload_n hx hb d_M_strength_0 rfl (lv_at hl 0 rfl) ?_
  refine lv_aload_n hx hb d_M_strength_1 rfl (lv_at hl 0 rfl) ?_
  refine lv_iload_n hx hb d_M_strength_2 rfl (lv_at hl 1 rfl) ?_
  refine va_calli (va_runV (As := [.int (v)]) (rest := [.ref h]) ⟨hx, hb, hml, hown, htB⟩ (p_M_noJoint l g z _ h (fs) (nj) (v)) (cwV 1 htB (gV kw_625 kw_627 ks_1_15 kw_3 g_M_noJoint) rfl rfl rfl (by decide +kernel) ⟨by decide, by decide⟩) (pre_V hS hz ha (va_recv ha.1 hP (ci := 3) (q0 := 0) rfl rfl) ⟨va_one (hP 0 _ rfl), hf11⟩) rfl rfl hl.1 rfl (lv_room (Nat.le_of_ble_eq_true rfl)) d_M_strength_3 ⟨by decide, by decide⟩) hS (fun q _ h => h.elim) (fun q h => h.elim) (fun r_1 u t H1 locs ht hvm hw hB hz1 hk1 hS => ?_)
  obtain rfl := hB.symm.trans ht
  subst hw
  by_cases c_2 : noP (v) (nj)
  · rw [if_pos c_2]
    refine lv_if_eq (tgt := 13) hx hb d_M_strength_6 (by decide) (fun h => absurd h (by decide)) (fun _ => ?_)
    refine lv_iconst (v := (nI (1))) hx hb d_M_strength_9 (by decide) ?_
    refine lv_goto (tgt := 14) hx hb d_M_strength_10 (by decide) ?_
    refine va_put (D := g.1) (ci := 3) (v := .int (nI (1))) (ty := .int) (C := R_M) (T := F_M) (N := 19) hx hb htB in_M t_M t_M_ok n_M hown ha.1 hP hD hS 0 rfl rfl 0 (by decide) (htB _ kw_442) (fun _ h9 => h9) rfl (by decide +kernel) rfl rfl (by rw [hlen]; decide) d_M_strength_14 (fun H locs hP hD hS => ?_)
    have hP : va_P g.1 cls [(h, .inr (3, (fs).set 0 (.int (nI (1))))), (ap, eI g 1152 (f)), (am, eI g 8 (mn)), (akd, eI g 12 (kd)), (afi, eI g 12 (fi)), (ase, eI g 12 (se)), (arw, eI g 5 (rw0))] H := hP
    have hD : va_D A [(h, .inr (3, (fs).set 0 (.int (nI (1))))), (ap, eI g 1152 (f)), (am, eI g 8 (mn)), (akd, eI g 12 (kd)), (afi, eI g 12 (fi)), (ase, eI g 12 (se)), (arw, eI g 5 (rw0))] := hD
    refine lv_aload_n hx hb d_M_strength_17 rfl (lv_at hl 0 rfl) ?_
    refine va_get (D := g.1) (ci := 3) (v := .int (nI (1))) (C := R_M) (T := F_M) (N := 19) hx hb htB in_M hown ha.1 hP 0 rfl rfl 0 (by decide) (htB _ kw_442) (fun _ h9 => h9) (gset_eq hlen (by decide)) d_M_strength_18 ?_
    refine lv_if_le (tgt := 28) hx hb d_M_strength_21 (by decide) (fun h => absurd h (by decide)) (fun _ => ?_)
    refine lv_lconst (v := 0) hx hb d_M_strength_24 (by decide) ?_
    refine lv_goto (tgt := 61) hx hb d_M_strength_25 (by decide) ?_
    have hP9 := hP.sub (ws' := [(h, .inr (3, (fs).set 0 (.int (nI (1))))), (ap, eI g 1152 (f)), (am, eI g 8 (mn)), (akd, eI g 12 (kd)), (afi, eI g 12 (fi)), (ase, eI g 12 (se)), (arw, eI g 5 (rw0))]) [0, 1, 2, 3, 4, 5, 6] rfl
    have hD9 := hD.sub (ws' := [(h, .inr (3, (fs).set 0 (.int (nI (1))))), (ap, eI g 1152 (f)), (am, eI g 8 (mn)), (akd, eI g 12 (kd)), (afi, eI g 12 (fi)), (ase, eI g 12 (se)), (arw, eI g 5 (rw0))]) [0, 1, 2, 3, 4, 5, 6] (by decide) rfl
    exact (W.widen (k := 0) (n := 0) (Nat.le_of_ble_eq_true rfl) (Nat.le_of_ble_eq_true rfl) (W.lret (v := (0)) hx hb hr (fun t ht hW => ⟨⟨(0), (fs).set 0 (.int (nI (1))), rfl, Or.inl ⟨c_2, rfl, rfl⟩, by rw [ht]; exact hP9, hD9.re [h, ap, am, akd, afi, ase, arw] rfl rfl⟩, hS.F ht⟩) hS.2.2 d_M_strength_61))
  · rw [if_neg c_2]
    refine lv_if_eq (tgt := 13) hx hb d_M_strength_6 (by decide) (fun _ => ?_) (fun h => absurd h (by decide))
    refine lv_iconst (v := (nI (0))) hx hb d_M_strength_13 (by decide) ?_
    refine va_put (D := g.1) (ci := 3) (v := .int (nI (0))) (ty := .int) (C := R_M) (T := F_M) (N := 19) hx hb htB in_M t_M t_M_ok n_M hown ha.1 hP hD hS 0 rfl rfl 0 (by decide) (htB _ kw_442) (fun _ h9 => h9) rfl (by decide +kernel) rfl rfl (by rw [hlen]; decide) d_M_strength_14 (fun H locs hP hD hS => ?_)
    have hP : va_P g.1 cls [(h, .inr (3, (fs).set 0 (.int (nI (0))))), (ap, eI g 1152 (f)), (am, eI g 8 (mn)), (akd, eI g 12 (kd)), (afi, eI g 12 (fi)), (ase, eI g 12 (se)), (arw, eI g 5 (rw0))] H := hP
    have hD : va_D A [(h, .inr (3, (fs).set 0 (.int (nI (0))))), (ap, eI g 1152 (f)), (am, eI g 8 (mn)), (akd, eI g 12 (kd)), (afi, eI g 12 (fi)), (ase, eI g 12 (se)), (arw, eI g 5 (rw0))] := hD
    refine lv_aload_n hx hb d_M_strength_17 rfl (lv_at hl 0 rfl) ?_
    refine va_get (D := g.1) (ci := 3) (v := .int (nI (0))) (C := R_M) (T := F_M) (N := 19) hx hb htB in_M hown ha.1 hP 0 rfl rfl 0 (by decide) (htB _ kw_442) (fun _ h9 => h9) (gset_eq hlen (by decide)) d_M_strength_18 ?_
    refine lv_if_le (tgt := 28) hx hb d_M_strength_21 (by decide) (fun _ => ?_) (fun h => absurd h (by decide))
    obtain ⟨q, hq, rfl⟩ := noP_not (by omega) c_2
    obtain ⟨kq, ja, jb, hk5, hja, hjb, hkq, hfa, hfb⟩ := hjn q hq
    obtain ⟨na, hna, hma⟩ := hmn ja hja
    obtain ⟨nb, hnb, hmb⟩ := hmn jb hjb
    refine lv_aload_n hx hb d_M_strength_28 rfl (lv_at hl 0 rfl) ?_
    refine lv_aload_n hx hb d_M_strength_29 rfl (lv_at hl 0 rfl) ?_
    refine va_get (D := g.1) (ci := 3) (v := .ref afi) (C := R_M) (T := F_M) (N := 19) hx hb htB in_M hown ha.1 hP 0 rfl rfl 13 (by decide) (htB _ kw_455) (fun _ h9 => h9) (gset_ne (by decide) hf13) d_M_strength_30 ?_
    refine lv_iload_n hx hb d_M_strength_33 rfl (lv_at hl 1 rfl) ?_
    refine ja_ald (k := q) hx hb ha.1 hP 4 0 rfl rfl (by omega) (by omega) d_M_strength_34 ?_
    rw [hfa]
    refine lv_aload_n hx hb d_M_strength_35 rfl (lv_at hl 0 rfl) ?_
    refine va_get (D := g.1) (ci := 3) (v := .ref ase) (C := R_M) (T := F_M) (N := 19) hx hb htB in_M hown ha.1 hP 0 rfl rfl 14 (by decide) (htB _ kw_456) (fun _ h9 => h9) (gset_ne (by decide) hf14) d_M_strength_36 ?_
    refine lv_iload_n hx hb d_M_strength_39 rfl (lv_at hl 1 rfl) ?_
    refine ja_ald (k := q) hx hb ha.1 hP 5 0 rfl rfl (by omega) (by omega) d_M_strength_40 ?_
    rw [hfb]
    refine va_calll (va_runV (As := [.int (nI (ja)), .int (nI (jb))]) (rest := []) ⟨hx, hb, hml, hown, htB⟩ (p_M_touchOf l g z _ h ((fs).set 0 (.int (nI (0)))) ap am (f) (mn) (ja) na (jb) nb) (cwV 2 htB (gV kw_609 kw_611 ks_1_14 kw_3 g_M_touchOf) rfl rfl rfl (by decide +kernel) ⟨by decide, by decide⟩) (pre_V hS hz ha (va_recv ha.1 hP (ci := 3) (q0 := 0) rfl rfl) ⟨va_three (hP 0 _ rfl) (hP 1 _ rfl) (hP 2 _ rfl), (gset_ne (by decide) hf3), (gset_ne (by decide) hf4), by omega, by omega, hma, hmb, hna, hnb⟩) rfl rfl hl.1 rfl (lv_room (Nat.le_of_ble_eq_true rfl)) d_M_strength_41 ⟨by decide, by decide⟩) hS (fun q _ h => h.elim) (fun q h => h.elim) (fun r_7 u t H1 locs ht hvm hw hB hz1 hk1 hS => ?_)
    obtain rfl := hB.symm.trans ht
    subst hw
    refine lv_aload_n hx hb d_M_strength_44 rfl (lv_at hl 0 rfl) ?_
    refine va_get (D := g.1) (ci := 3) (v := .ref arw) (C := R_M) (T := F_M) (N := 19) hx hb htB in_M hown ha.1 hP 0 rfl rfl 18 (by decide) (htB _ kw_460) (fun _ h9 => h9) (gset_ne (by decide) hf18) d_M_strength_45 ?_
    refine lv_aload_n hx hb d_M_strength_48 rfl (lv_at hl 0 rfl) ?_
    refine va_get (D := g.1) (ci := 3) (v := .ref akd) (C := R_M) (T := F_M) (N := 19) hx hb htB in_M hown ha.1 hP 0 rfl rfl 12 (by decide) (htB _ kw_454) (fun _ h9 => h9) (gset_ne (by decide) hf12) d_M_strength_49 ?_
    refine lv_iload_n hx hb d_M_strength_52 rfl (lv_at hl 1 rfl) ?_
    refine ja_ald (k := q) hx hb ha.1 hP 3 0 rfl rfl (by omega) (by omega) d_M_strength_53 ?_
    rw [hkq]
    refine ja_ald (k := kq) hx hb ha.1 hP 6 0 rfl rfl (by omega) (by omega) d_M_strength_54 ?_
    refine lv_i2l (v := ((rw0 (kq))).toInt64) hx hb d_M_strength_55 rfl ?_
    refine lv_lmul hx hb d_M_strength_56 ?_
    refine lv_ldc2 hx hb hown (htB _ kw_629) d_M_strength_57 ?_
    refine lv_ldiv hx hb d_M_strength_60 (by decide) ?_
    have hP9 := hP.sub (ws' := [(h, .inr (3, (fs).set 0 (.int (nI (0))))), (ap, eI g 1152 (f)), (am, eI g 8 (mn)), (akd, eI g 12 (kd)), (afi, eI g 12 (fi)), (ase, eI g 12 (se)), (arw, eI g 5 (rw0))]) [0, 1, 2, 3, 4, 5, 6] rfl
    have hD9 := hD.sub (ws' := [(h, .inr (3, (fs).set 0 (.int (nI (0))))), (ap, eI g 1152 (f)), (am, eI g 8 (mn)), (akd, eI g 12 (kd)), (afi, eI g 12 (fi)), (ase, eI g 12 (se)), (arw, eI g 5 (rw0))]) [0, 1, 2, 3, 4, 5, 6] (by decide) rfl
    exact (W.widen (k := 0) (n := 0) (Nat.le_of_ble_eq_true rfl) (Nat.le_of_ble_eq_true rfl) (W.lret (v := (((toM f (ja) na (jb) nb) * (((rw0 (kq))).toInt64)) / (100))) hx hb hr (fun t ht hW => ⟨⟨(((toM f (ja) na (jb) nb) * (((rw0 (kq))).toInt64)) / (100)), (fs).set 0 (.int (nI (0))), rfl, Or.inr ⟨q, kq, ja, jb, na, nb, hq, rfl, hkq, hfa, hfb, hk5, hja, hjb, hna, hma, hnb, hmb, rfl, rfl⟩, by rw [ht]; exact hP9, hD9.re [h, ap, am, akd, afi, ase, arw] rfl rfl⟩, hS.F ht⟩) hS.2.2 d_M_strength_61))
