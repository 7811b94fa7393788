set_option maxHeartbeats 4000000 in
set_option maxRecDepth 100000 in
theorem m_M_corner (l : Launch) (g : gT) (z : Nat) (H0 : Heap) (h : Nat) (fs : List Value) (ap am np : Nat) (f mn : Nat → Int32) (v pv kv : Int32) : Met l y_M_corner w_M_corner ({ frames := 1, cells := 0, slots := 0, locals := 22 }) (va_Pc [.ref h, .int (v), .int (pv), .int (kv)] (pB g z H0 (va_P g.1 cls [(h, .inr (3, fs)), (ap, eI g 1152 (f)), (am, eI g 8 (mn))] H0 ∧ va_D (zA z) [(h, .inr (3, fs)), (ap, eI g 1152 (f)), (am, eI g 8 (mn))] ∧ (fs.length = 19 ∧ fs[1]? = some (.int (nI np)) ∧ np ≤ 8 ∧ fs[3]? = some (.ref ap) ∧ fs[4]? = some (.ref am) ∧ (∀ j, j < np → ∃ n : Nat, n ≤ 24 ∧ mn j = nI n))))) (va_Qi (fun (rr : Int32) (u : List Value) => ((noP v np ∨ pv < 0 ∨ (∃ j n : Nat, j < np ∧ v = nI j ∧ mn j = nI n ∧ nI n ≤ pv) ∨ outI kv (nI 0) (nI 5)) ∧ u = fs.set 0 (.int (nI 1)) ∧ rr = nI 0) ∨ (∃ j n i q : Nat, j < np ∧ v = nI j ∧ n ≤ 24 ∧ mn j = nI n ∧ i < n ∧ pv = nI i ∧ q ≤ 5 ∧ kv = nI q ∧ u = fs.set 0 (.int (nI 0)) ∧ rr = f (144 * j + 6 * i + q))) (fun (u : List Value) t => va_P g.1 cls [(h, .inr (3, u)), (ap, eI g 1152 (f)), (am, eI g 8 (mn))] t.heap ∧ va_D (va_A [(h, .inr (3, fs)), (ap, eI g 1152 (f)), (am, eI g 8 (mn))] H0.size) [(h, .inr (3, u)), (ap, eI g 1152 (f)), (am, eI g 8 (mn))]) (va_A [(h, .inr (3, fs)), (ap, eI g 1152 (f)), (am, eI g 8 (mn))] H0.size)) 0 0 (va_A [(h, .inr (3, fs)), (ap, eI g 1152 (f)), (am, eI g 8 (mn))] H0.size) := by
  refine Met.ofW (cc := c_M_corner) (maxL := 4) (ret := (some .int)) (by decide) rfl ?_
  intro p e s m args below meth c s₁ B hml hv
  obtain ⟨rfl, hH0, ha, hP, hD0, hlen, hf1, hnp, hf3, hf4, hmn⟩ := hv
  have hx := B.exec
  have hb := B.bytes
  have hr := B.returns
  have htB : ∀ w ∈ tB, w.before _ s = true := fun w h => atoms_spec (ws := w_M_corner) B.pre w (List.mem_cons_of_mem _ h)
  have hown : s.vm.findClass "JointSolidsModel" = some m.cls := findClass_of_methodNamed B.named
  have hlocks := B.notSynchronized
  subst hH0
  have hD := hD0.self (sz := s.heap.size)
  have hz := aA_z hD0 ha.2.2.2.2.2
  generalize hAe : va_A [(h, .inr (3, fs)), (ap, eI g 1152 (f)), (am, eI g 8 (mn))] s.heap.size = A at hD hz ⊢
  have hA : ∀ q : Nat, s.heap.size ≤ q → A q := fun q h => by rw [← hAe]; exact Or.inr h
  have hS : va_S A s.heap s.heap [] := va_S.rf
  refine W.ofH hP hS (fun H locs hP hS => ?_)
  have hl := lv_entry ([.ref h, .int (v), .int (pv), .int (kv)]) (n := 4) (Nat.le_of_ble_eq_true rfl)
  rw [lg_entry_eq]
  generalize (lg_sl ([.ref h, .int (v), .int (pv), .int (kv)]) ++ List.replicate (4 - (lg_sl ([.ref h, .int (v), .int (pv), .int (kv)])).length) Slot.unset).toArray = ls at hl ⊢
  have hl : lv_has ls 4 [(0, .ref h), (1, .int (v)), (2, .int (pv)), (3, .int (kv))] := hl
  refine lv_aload_n hx hb d_M_corner_0 rfl (lv_at hl 0 rfl) ?_
  refine lv_aload_n hx hb d_M_corner_1 rfl (lv_at hl 0 rfl) ?_
  refine lv_iload_n hx hb d_M_corner_2 rfl (lv_at hl 1 rfl) ?_
  refine va_calli (va_runV (As := [.int (v)]) (rest := [.ref h]) ⟨hx, hb, hml, hown, htB⟩ (p_M_noPart l g z _ h (fs) (np) (v)) (cwV 1 htB (gV kw_520 kw_522 ks_1_1 kw_3 g_M_noPart) rfl rfl rfl (by decide +kernel) ⟨by decide, by decide⟩) (pre_V hS hz ha (va_recv ha.1 hP (ci := 3) (q0 := 0) rfl rfl) ⟨va_one (hP 0 _ rfl), hf1⟩) rfl rfl hl.1 rfl (lv_room (Nat.le_of_ble_eq_true rfl)) d_M_corner_3 ⟨by decide, by decide⟩) hS (fun q _ h => h.elim) (fun q h => h.elim) (fun r_1 u t H1 locs ht hvm hw hB hz1 hk1 hS => ?_)
  obtain rfl := hB.symm.trans ht
  subst hw
  by_cases c_2 : noP (v) (np)
  · rw [if_pos c_2]
    refine lv_if_ne (tgt := 32) hx hb d_M_corner_6 (by decide) (fun _ => ?_) (fun h => absurd h (by decide))
    refine lv_iconst (v := (nI (1))) hx hb d_M_corner_32 (by decide) ?_
    refine lv_goto (tgt := 37) hx hb d_M_corner_33 (by decide) ?_
    refine va_put (D := g.1) (ci := 3) (v := .int (nI (1))) (ty := .int) (C := R_M) (T := F_M) (N := 19) hx hb htB in_M t_M t_M_ok n_M hown ha.1 hP hD hS 0 rfl rfl 0 (by decide) (htB _ kw_442) (fun _ h9 => h9) rfl (by decide +kernel) rfl rfl (by rw [hlen]; decide) d_M_corner_37 (fun H locs hP hD hS => ?_)
    have hP : va_P g.1 cls [(h, .inr (3, (fs).set 0 (.int (nI (1))))), (ap, eI g 1152 (f)), (am, eI g 8 (mn))] H := hP
    have hD : va_D A [(h, .inr (3, (fs).set 0 (.int (nI (1))))), (ap, eI g 1152 (f)), (am, eI g 8 (mn))] := hD
    refine lv_aload_n hx hb d_M_corner_40 rfl (lv_at hl 0 rfl) ?_
    refine va_get (D := g.1) (ci := 3) (v := .int (nI (1))) (C := R_M) (T := F_M) (N := 19) hx hb htB in_M hown ha.1 hP 0 rfl rfl 0 (by decide) (htB _ kw_442) (fun _ h9 => h9) (gset_eq hlen (by decide)) d_M_corner_41 ?_
    refine lv_if_le (tgt := 51) hx hb d_M_corner_44 (by decide) (fun h => absurd h (by decide)) (fun _ => ?_)
    refine lv_iconst (v := (nI (0))) hx hb d_M_corner_47 (by decide) ?_
    refine lv_goto (tgt := 68) hx hb d_M_corner_48 (by decide) ?_
    have hP9 := hP.sub (ws' := [(h, .inr (3, (fs).set 0 (.int (nI (1))))), (ap, eI g 1152 (f)), (am, eI g 8 (mn))]) [0, 1, 2] rfl
    have hD9 := hD.sub (ws' := [(h, .inr (3, (fs).set 0 (.int (nI (1))))), (ap, eI g 1152 (f)), (am, eI g 8 (mn))]) [0, 1, 2] (by decide) rfl
    exact (W.widen (k := 0) (n := 0) (Nat.le_of_ble_eq_true rfl) (Nat.le_of_ble_eq_true rfl) (W.iret (v := (nI (0))) hx hb hr (fun t ht hW => ⟨⟨(nI (0)), (fs).set 0 (.int (nI (1))), rfl, Or.inl ⟨Or.inl c_2, rfl, rfl⟩, by rw [ht]; exact hP9, hD9.re [h, ap, am] rfl rfl⟩, hS.F ht⟩) hS.2.2 d_M_corner_68))
  · rw [if_neg c_2]
    refine lv_if_ne (tgt := 32) hx hb d_M_corner_6 (by decide) (fun h => absurd h (by decide)) (fun _ => ?_)
    refine lv_iload_n hx hb d_M_corner_9 rfl (lv_at hl 2 rfl) ?_
    refine lv_if_lt (tgt := 32) hx hb d_M_corner_10 (by decide) (fun c_6 => ?_) (fun c_6 => ?_)
    · refine lv_iconst (v := (nI (1))) hx hb d_M_corner_32 (by decide) ?_
      refine lv_goto (tgt := 37) hx hb d_M_corner_33 (by decide) ?_
      refine va_put (D := g.1) (ci := 3) (v := .int (nI (1))) (ty := .int) (C := R_M) (T := F_M) (N := 19) hx hb htB in_M t_M t_M_ok n_M hown ha.1 hP hD hS 0 rfl rfl 0 (by decide) (htB _ kw_442) (fun _ h9 => h9) rfl (by decide +kernel) rfl rfl (by rw [hlen]; decide) d_M_corner_37 (fun H locs hP hD hS => ?_)
      have hP : va_P g.1 cls [(h, .inr (3, (fs).set 0 (.int (nI (1))))), (ap, eI g 1152 (f)), (am, eI g 8 (mn))] H := hP
      have hD : va_D A [(h, .inr (3, (fs).set 0 (.int (nI (1))))), (ap, eI g 1152 (f)), (am, eI g 8 (mn))] := hD
      refine lv_aload_n hx hb d_M_corner_40 rfl (lv_at hl 0 rfl) ?_
      refine va_get (D := g.1) (ci := 3) (v := .int (nI (1))) (C := R_M) (T := F_M) (N := 19) hx hb htB in_M hown ha.1 hP 0 rfl rfl 0 (by decide) (htB _ kw_442) (fun _ h9 => h9) (gset_eq hlen (by decide)) d_M_corner_41 ?_
      refine lv_if_le (tgt := 51) hx hb d_M_corner_44 (by decide) (fun h => absurd h (by decide)) (fun _ => ?_)
      refine lv_iconst (v := (nI (0))) hx hb d_M_corner_47 (by decide) ?_
      refine lv_goto (tgt := 68) hx hb d_M_corner_48 (by decide) ?_
      have hP9 := hP.sub (ws' := [(h, .inr (3, (fs).set 0 (.int (nI (1))))), (ap, eI g 1152 (f)), (am, eI g 8 (mn))]) [0, 1, 2] rfl
      have hD9 := hD.sub (ws' := [(h, .inr (3, (fs).set 0 (.int (nI (1))))), (ap, eI g 1152 (f)), (am, eI g 8 (mn))]) [0, 1, 2] (by decide) rfl
      exact (W.widen (k := 0) (n := 0) (Nat.le_of_ble_eq_true rfl) (Nat.le_of_ble_eq_true rfl) (W.iret (v := (nI (0))) hx hb hr (fun t ht hW => ⟨⟨(nI (0)), (fs).set 0 (.int (nI (1))), rfl, Or.inl ⟨Or.inr (Or.inl c_6), rfl, rfl⟩, by rw [ht]; exact hP9, hD9.re [h, ap, am] rfl rfl⟩, hS.F ht⟩) hS.2.2 d_M_corner_68))
    · obtain ⟨j, hj, rfl⟩ := noP_not (by omega) c_2
      obtain ⟨nj, hnj, hmj⟩ := hmn j hj
      refine lv_iload_n hx hb d_M_corner_13 rfl (lv_at hl 2 rfl) ?_
      refine lv_aload_n hx hb d_M_corner_14 rfl (lv_at hl 0 rfl) ?_
      refine va_get (D := g.1) (ci := 3) (v := .ref am) (C := R_M) (T := F_M) (N := 19) hx hb htB in_M hown ha.1 hP 0 rfl rfl 4 (by decide) (htB _ kw_446) (fun _ h9 => h9) hf4 d_M_corner_15 ?_
      refine lv_iload_n hx hb d_M_corner_18 rfl (lv_at hl 1 rfl) ?_
      refine ja_ald (k := j) hx hb ha.1 hP 2 0 rfl rfl (by omega) (by omega) d_M_corner_19 ?_
      rw [hmj]
      refine lv_icmp_ge (tgt := 32) hx hb d_M_corner_20 (by decide) (fun c_8 => ?_) (fun c_8 => ?_)
      · refine lv_iconst (v := (nI (1))) hx hb d_M_corner_32 (by decide) ?_
        refine lv_goto (tgt := 37) hx hb d_M_corner_33 (by decide) ?_
        refine va_put (D := g.1) (ci := 3) (v := .int (nI (1))) (ty := .int) (C := R_M) (T := F_M) (N := 19) hx hb htB in_M t_M t_M_ok n_M hown ha.1 hP hD hS 0 rfl rfl 0 (by decide) (htB _ kw_442) (fun _ h9 => h9) rfl (by decide +kernel) rfl rfl (by rw [hlen]; decide) d_M_corner_37 (fun H locs hP hD hS => ?_)
        have hP : va_P g.1 cls [(h, .inr (3, (fs).set 0 (.int (nI (1))))), (ap, eI g 1152 (f)), (am, eI g 8 (mn))] H := hP
        have hD : va_D A [(h, .inr (3, (fs).set 0 (.int (nI (1))))), (ap, eI g 1152 (f)), (am, eI g 8 (mn))] := hD
        refine lv_aload_n hx hb d_M_corner_40 rfl (lv_at hl 0 rfl) ?_
        refine va_get (D := g.1) (ci := 3) (v := .int (nI (1))) (C := R_M) (T := F_M) (N := 19) hx hb htB in_M hown ha.1 hP 0 rfl rfl 0 (by decide) (htB _ kw_442) (fun _ h9 => h9) (gset_eq hlen (by decide)) d_M_corner_41 ?_
        refine lv_if_le (tgt := 51) hx hb d_M_corner_44 (by decide) (fun h => absurd h (by decide)) (fun _ => ?_)
        refine lv_iconst (v := (nI (0))) hx hb d_M_corner_47 (by decide) ?_
        refine lv_goto (tgt := 68) hx hb d_M_corner_48 (by decide) ?_
        have hP9 := hP.sub (ws' := [(h, .inr (3, (fs).set 0 (.int (nI (1))))), (ap, eI g 1152 (f)), (am, eI g 8 (mn))]) [0, 1, 2] rfl
        have hD9 := hD.sub (ws' := [(h, .inr (3, (fs).set 0 (.int (nI (1))))), (ap, eI g 1152 (f)), (am, eI g 8 (mn))]) [0, 1, 2] (by decide) rfl
        exact (W.widen (k := 0) (n := 0) (Nat.le_of_ble_eq_true rfl) (Nat.le_of_ble_eq_true rfl) (W.iret (v := (nI (0))) hx hb hr (fun t ht hW => ⟨⟨(nI (0)), (fs).set 0 (.int (nI (1))), rfl, Or.inl ⟨Or.inr (Or.inr (Or.inl ⟨j, nj, hj, rfl, hmj, c_8⟩)), rfl, rfl⟩, by rw [ht]; exact hP9, hD9.re [h, ap, am] rfl rfl⟩, hS.F ht⟩) hS.2.2 d_M_corner_68))
      · refine lv_iload_n hx hb d_M_corner_23 rfl (lv_at hl 3 rfl) ?_
        refine lv_iconst (v := (nI (0))) hx hb d_M_corner_24 (by decide) ?_
        refine lv_iconst (v := (nI (5))) hx hb d_M_corner_25 (by decide) ?_
        refine va_calli (va_runS (As := [.int (kv), .int (nI (0)), .int (nI (5))]) (rest := [.ref h]) ⟨hx, hb, hml, hown, htB⟩ (p_M_isIn l g z _ (kv) (nI (0)) (nI (5))) (va_cwS 3 htB (gS kw_509 kw_510 kw_3 g_M_isIn) rfl rfl rfl (by decide +kernel) ⟨by decide, by decide⟩) (pre_S hS hz ha trivial) rfl rfl hl.1 rfl (lv_room (Nat.le_of_ble_eq_true rfl)) d_M_corner_26 ⟨by decide, by decide⟩) hS (fun q _ h => h.elim) (fun q h => h.elim) (fun r_10 u t H1 locs ht hvm hw hB hz1 hk1 hS => ?_)
        obtain rfl := hB.symm.trans ht
        subst hw
        by_cases c_11 : outI (kv) (nI (0)) (nI (5))
        · rw [if_pos c_11]
          refine lv_if_ne (tgt := 36) hx hb d_M_corner_29 (by decide) (fun h => absurd h (by decide)) (fun _ => ?_)
          refine lv_iconst (v := (nI (1))) hx hb d_M_corner_32 (by decide) ?_
          refine lv_goto (tgt := 37) hx hb d_M_corner_33 (by decide) ?_
          refine va_put (D := g.1) (ci := 3) (v := .int (nI (1))) (ty := .int) (C := R_M) (T := F_M) (N := 19) hx hb htB in_M t_M t_M_ok n_M hown ha.1 hP hD hS 0 rfl rfl 0 (by decide) (htB _ kw_442) (fun _ h9 => h9) rfl (by decide +kernel) rfl rfl (by rw [hlen]; decide) d_M_corner_37 (fun H locs hP hD hS => ?_)
          have hP : va_P g.1 cls [(h, .inr (3, (fs).set 0 (.int (nI (1))))), (ap, eI g 1152 (f)), (am, eI g 8 (mn))] H := hP
          have hD : va_D A [(h, .inr (3, (fs).set 0 (.int (nI (1))))), (ap, eI g 1152 (f)), (am, eI g 8 (mn))] := hD
          refine lv_aload_n hx hb d_M_corner_40 rfl (lv_at hl 0 rfl) ?_
          refine va_get (D := g.1) (ci := 3) (v := .int (nI (1))) (C := R_M) (T := F_M) (N := 19) hx hb htB in_M hown ha.1 hP 0 rfl rfl 0 (by decide) (htB _ kw_442) (fun _ h9 => h9) (gset_eq hlen (by decide)) d_M_corner_41 ?_
          refine lv_if_le (tgt := 51) hx hb d_M_corner_44 (by decide) (fun h => absurd h (by decide)) (fun _ => ?_)
          refine lv_iconst (v := (nI (0))) hx hb d_M_corner_47 (by decide) ?_
          refine lv_goto (tgt := 68) hx hb d_M_corner_48 (by decide) ?_
          have hP9 := hP.sub (ws' := [(h, .inr (3, (fs).set 0 (.int (nI (1))))), (ap, eI g 1152 (f)), (am, eI g 8 (mn))]) [0, 1, 2] rfl
          have hD9 := hD.sub (ws' := [(h, .inr (3, (fs).set 0 (.int (nI (1))))), (ap, eI g 1152 (f)), (am, eI g 8 (mn))]) [0, 1, 2] (by decide) rfl
          exact (W.widen (k := 0) (n := 0) (Nat.le_of_ble_eq_true rfl) (Nat.le_of_ble_eq_true rfl) (W.iret (v := (nI (0))) hx hb hr (fun t ht hW => ⟨⟨(nI (0)), (fs).set 0 (.int (nI (1))), rfl, Or.inl ⟨Or.inr (Or.inr (Or.inr c_11)), rfl, rfl⟩, by rw [ht]; exact hP9, hD9.re [h, ap, am] rfl rfl⟩, hS.F ht⟩) hS.2.2 d_M_corner_68))
        · rw [if_neg c_11]
          refine lv_if_ne (tgt := 36) hx hb d_M_corner_29 (by decide) (fun _ => ?_) (fun h => absurd h (by decide))
          refine lv_iconst (v := (nI (0))) hx hb d_M_corner_36 (by decide) ?_
          refine va_put (D := g.1) (ci := 3) (v := .int (nI (0))) (ty := .int) (C := R_M) (T := F_M) (N := 19) hx hb htB in_M t_M t_M_ok n_M hown ha.1 hP hD hS 0 rfl rfl 0 (by decide) (htB _ kw_442) (fun _ h9 => h9) rfl (by decide +kernel) rfl rfl (by rw [hlen]; decide) d_M_corner_37 (fun H locs hP hD hS => ?_)
          have hP : va_P g.1 cls [(h, .inr (3, (fs).set 0 (.int (nI (0))))), (ap, eI g 1152 (f)), (am, eI g 8 (mn))] H := hP
          have hD : va_D A [(h, .inr (3, (fs).set 0 (.int (nI (0))))), (ap, eI g 1152 (f)), (am, eI g 8 (mn))] := hD
          refine lv_aload_n hx hb d_M_corner_40 rfl (lv_at hl 0 rfl) ?_
          refine va_get (D := g.1) (ci := 3) (v := .int (nI (0))) (C := R_M) (T := F_M) (N := 19) hx hb htB in_M hown ha.1 hP 0 rfl rfl 0 (by decide) (htB _ kw_442) (fun _ h9 => h9) (gset_eq hlen (by decide)) d_M_corner_41 ?_
          refine lv_if_le (tgt := 51) hx hb d_M_corner_44 (by decide) (fun _ => ?_) (fun h => absurd h (by decide))
          obtain ⟨i, hi, rfl⟩ : ∃ i : Nat, i < nj ∧ pv = nI i := (pk_ix pv (n := nj) (by omega)).elim (fun q => absurd q c_6) (fun q => q.elim (fun q => absurd q c_8) id)
          obtain ⟨q, hq, rfl⟩ := out_not (n := 5) (by decide) c_11
          refine lv_aload_n hx hb d_M_corner_51 rfl (lv_at hl 0 rfl) ?_
          refine va_get (D := g.1) (ci := 3) (v := .ref ap) (C := R_M) (T := F_M) (N := 19) hx hb htB in_M hown ha.1 hP 0 rfl rfl 3 (by decide) (htB _ kw_445) (fun _ h9 => h9) (gset_ne (by decide) hf3) d_M_corner_52 ?_
          refine lv_sipush (v := (nI (144))) hx hb d_M_corner_55 (by decide) ?_
          refine lv_iload_n hx hb d_M_corner_58 rfl (lv_at hl 1 rfl) ?_
          refine jv_imul hx hb d_M_corner_59 ?_
          refine lv_bipush (v := (nI (6))) hx hb d_M_corner_60 (by decide) ?_
          refine lv_iload_n hx hb d_M_corner_62 rfl (lv_at hl 2 rfl) ?_
          refine jv_imul hx hb d_M_corner_63 ?_
          refine jv_iadd hx hb d_M_corner_64 ?_
          refine lv_iload_n hx hb d_M_corner_65 rfl (lv_at hl 3 rfl) ?_
          refine jv_iadd hx hb d_M_corner_66 ?_
          refine ja_ald (k := ((144 * j) + (6 * i)) + q) hx hb ha.1 hP 1 0 rfl rfl (by omega) (by omega) d_M_corner_67 ?_
          have hP9 := hP.sub (ws' := [(h, .inr (3, (fs).set 0 (.int (nI (0))))), (ap, eI g 1152 (f)), (am, eI g 8 (mn))]) [0, 1, 2] rfl
          have hD9 := hD.sub (ws' := [(h, .inr (3, (fs).set 0 (.int (nI (0))))), (ap, eI g 1152 (f)), (am, eI g 8 (mn))]) [0, 1, 2] (by decide) rfl
          exact (W.widen (k := 0) (n := 0) (Nat.le_of_ble_eq_true rfl) (Nat.le_of_ble_eq_true rfl) (W.iret (v := (f (((144 * j) + (6 * i)) + q))) hx hb hr (fun t ht hW => ⟨⟨(f (((144 * j) + (6 * i)) + q)), (fs).set 0 (.int (nI (0))), rfl, Or.inr ⟨j, nj, i, q, hj, rfl, hnj, hmj, hi, rfl, hq, rfl, rfl, rfl⟩, by rw [ht]; exact hP9, hD9.re [h, ap, am] rfl rfl⟩, hS.F ht⟩) hS.2.2 d_M_corner_68))
def abM (kd fi se ax : Nat → Int32) (lf lz : Nat → Int64) (q i : Nat) : Int64 := if i = 0 then (kd q).toInt64 else if i = 1 then (fi q).toInt64 else if i = 2 then (se q).toInt64 else if i = 3 then (ax q).toInt64 else if i = 4 then lf q else lz q
set_option maxHeartbeats 4000000 in
set_option maxRecDepth 100000 in
theorem m_M_about (l : Launch) (g : gT) (z : Nat) (H0 : Heap) (h : Nat) (fs : List Value) (akd afi ase aax alf als nj : Nat) (kd fi se ax : Nat → Int32) (lf lz : Nat → Int64) (v wv : Int32) : Met l y_M_about w_M_about ({ frames := 1, cells := 0, slots := 0, locals := 22 }) (va_Pc [.ref h, .int (v), .int (wv)] (pB g z H0 (va_P g.1 cls [(h, .inr (3, fs)), (akd, eI g 12 (kd)), (afi, eI g 12 (fi)), (ase, eI g 12 (se)), (aax, eI g 12 (ax)), (alf, eL g 12 (lf)), (als, eL g 12 (lz))] H0 ∧ va_D (zA z) [(h, .inr (3, fs)), (akd, eI g 12 (kd)), (afi, eI g 12 (fi)), (ase, eI g 12 (se)), (aax, eI g 12 (ax)), (alf, eL g 12 (lf)), (als, eL g 12 (lz))] ∧ (fs.length = 19 ∧ fs[11]? = some (.int (nI nj)) ∧ fs[12]? = some (.ref akd) ∧ fs[13]? = some (.ref afi) ∧ fs[14]? = some (.ref ase) ∧ fs[15]? = some (.ref aax) ∧ fs[16]? = some (.ref alf) ∧ fs[17]? = some (.ref als) ∧ nj ≤ 12)))) (va_Ql (fun (rr : Int64) (u : List Value) => ((noP v nj ∨ outI wv (nI 0) (nI 5)) ∧ u = fs.set 0 (.int (nI 1)) ∧ rr = 0) ∨ (∃ q i : Nat, q < nj ∧ v = nI q ∧ i ≤ 5 ∧ wv = nI i ∧ u = fs.set 0 (.int (nI 0)) ∧ rr = abM kd fi se ax lf lz q i)) (fun (u : List Value) t => va_P g.1 cls [(h, .inr (3, u)), (akd, eI g 12 (kd)), (afi, eI g 12 (fi)), (ase, eI g 12 (se)), (aax, eI g 12 (ax)), (alf, eL g 12 (lf)), (als, eL g 12 (lz))] t.heap ∧ va_D (va_A [(h, .inr (3, fs)), (akd, eI g 12 (kd)), (afi, eI g 12 (fi)), (ase, eI g 12 (se)), (aax, eI g 12 (ax)), (alf, eL g 12 (lf)), (als, eL g 12 (lz))] H0.size) [(h, .inr (3, u)), (akd, eI g 12 (kd)), (afi, eI g 12 (fi)), (ase, eI g 12 (se)), (aax, eI g 12 (ax)), (alf, eL g 12 (lf)), (als, eL g 12 (lz))]) (va_A [(h, .inr (3, fs)), (akd, eI g 12 (kd)), (afi, eI g 12 (fi)), (ase, eI g 12 (se)), (aax, eI g 12 (ax)), (alf, eL g 12 (lf)), (als, eL g 12 (lz))] H0.size)) 0 0 (va_A [(h, .inr (3, fs)), (akd, eI g 12 (kd)), (afi, eI g 12 (fi)), (ase, eI g 12 (se)), (aax, eI g 12 (ax)), (alf, eL g 12 (lf)), (als, eL g 12 (lz))] H0.size) := by
  refine Met.ofW (cc := c_M_about) (maxL := 3) (ret := (some .long)) (by decide) rfl ?_
  intro p e s m args below meth c s₁ B hml hv
  obtain ⟨rfl, hH0, ha, hP, hD0, hlen, hf11, hf12, hf13, hf14, hf15, hf16, hf17, hnj⟩ := hv
  have hx := B.exec
  have hb := B.bytes
  have hr := B.returns
  have htB : ∀ w ∈ tB, w.before _ s = true := fun w h => atoms_spec (ws := w_M_about) B.pre w (List.mem_cons_of_mem _ h)
  have hown : s.vm.findClass "JointSolidsModel" = some m.cls := findClass_of_methodNamed B.named
  have hlocks := B.notSynchronized
  subst hH0
  have hD := hD0.self (sz := s.heap.size)
  have hz := aA_z hD0 ha.2.2.2.2.2
  generalize hAe : va_A [(h, .inr (3, fs)), (akd, eI g 12 (kd)), (afi, eI g 12 (fi)), (ase, eI g 12 (se)), (aax, eI g 12 (ax)), (alf, eL g 12 (lf)), (als, eL g 12 (lz))] s.heap.size = A at hD hz ⊢
  have hA : ∀ q : Nat, s.heap.size ≤ q → A q := fun q h => by rw [← hAe]; exact Or.inr h
  have hS : va_S A s.heap s.heap [] := va_S.rf
  refine W.ofH hP hS (fun H locs hP hS => ?_)
  have hl := lv_entry ([.ref h, .int (v), .int (wv)]) (n := 3) (Nat.le_of_ble_eq_true rfl)
  rw [lg_entry_eq]
  generalize (lg_sl ([.ref h, .int (v), .int (wv)]) ++ List.replicate (3 - (lg_sl ([.ref h, .int (v), .int (wv)])).length) Slot.unset).toArray = ls at hl ⊢
  have hl : lv_has ls 3 [(0, .ref h), (1, .int (v)), (2, .int (wv))] := hl
  refine lv_aload_n hx hb d_M_about_0 rfl (lv_at hl 0 rfl) ?_
  refine lv_aload_n hx hb d_M_about_1 rfl (lv_at hl 0 rfl) ?_
  refine lv_iload_n hx hb d_M_about_2 rfl (lv_at hl 1 rfl) ?_
  refine va_calli (va_runV (As := [.int (v)]) (rest := [.ref h]) ⟨hx, hb, hml, hown, htB⟩ (p_M_noJoint l g z _ h (fs) (nj) (v)) (cwV 1 htB (gV kw_625 kw_627 ks_1_15 kw_3 g_M_noJoint) rfl rfl rfl (by decide +kernel) ⟨by decide, by decide⟩) (pre_V hS hz ha (va_recv ha.1 hP (ci := 3) (q0 := 0) rfl rfl) ⟨va_one (hP 0 _ rfl), hf11⟩) rfl rfl hl.1 rfl (lv_room (Nat.le_of_ble_eq_true rfl)) d_M_about_3 ⟨by decide, by decide⟩) hS (fun q _ h => h.elim) (fun q h => h.elim) (fun r_1 u t H1 locs ht hvm hw hB hz1 hk1 hS => ?_)
  obtain rfl := hB.symm.trans ht
  subst hw
  by_cases c_2 : noP (v) (nj)
  · rw [if_pos c_2]
    refine lv_if_ne (tgt := 18) hx hb d_M_about_6 (by decide) (fun _ => ?_) (fun h => absurd h (by decide))
    refine lv_iconst (v := (nI (1))) hx hb d_M_about_18 (by decide) ?_
    refine lv_goto (tgt := 23) hx hb d_M_about_19 (by decide) ?_
    refine va_put (D := g.1) (ci := 3) (v := .int (nI (1))) (ty := .int) (C := R_M) (T := F_M) (N := 19) hx hb htB in_M t_M t_M_ok n_M hown ha.1 hP hD hS 0 rfl rfl 0 (by decide) (htB _ kw_442) (fun _ h9 => h9) rfl (by decide +kernel) rfl rfl (by rw [hlen]; decide) d_M_about_23 (fun H locs hP hD hS => ?_)
    have hP : va_P g.1 cls [(h, .inr (3, (fs).set 0 (.int (nI (1))))), (akd, eI g 12 (kd)), (afi, eI g 12 (fi)), (ase, eI g 12 (se)), (aax, eI g 12 (ax)), (alf, eL g 12 (lf)), (als, eL g 12 (lz))] H := hP
    have hD : va_D A [(h, .inr (3, (fs).set 0 (.int (nI (1))))), (akd, eI g 12 (kd)), (afi, eI g 12 (fi)), (ase, eI g 12 (se)), (aax, eI g 12 (ax)), (alf, eL g 12 (lf)), (als, eL g 12 (lz))] := hD
    refine lv_aload_n hx hb d_M_about_26 rfl (lv_at hl 0 rfl) ?_
    refine va_get (D := g.1) (ci := 3) (v := .int (nI (1))) (C := R_M) (T := F_M) (N := 19) hx hb htB in_M hown ha.1 hP 0 rfl rfl 0 (by decide) (htB _ kw_442) (fun _ h9 => h9) (gset_eq hlen (by decide)) d_M_about_27 ?_
    refine lv_if_le (tgt := 35) hx hb d_M_about_30 (by decide) (fun h => absurd h (by decide)) (fun _ => ?_)
    refine lv_lconst (v := 0) hx hb d_M_about_33 (by decide) ?_
    have hP9 := hP.sub (ws' := [(h, .inr (3, (fs).set 0 (.int (nI (1))))), (akd, eI g 12 (kd)), (afi, eI g 12 (fi)), (ase, eI g 12 (se)), (aax, eI g 12 (ax)), (alf, eL g 12 (lf)), (als, eL g 12 (lz))]) [0, 1, 2, 3, 4, 5, 6] rfl
    have hD9 := hD.sub (ws' := [(h, .inr (3, (fs).set 0 (.int (nI (1))))), (akd, eI g 12 (kd)), (afi, eI g 12 (fi)), (ase, eI g 12 (se)), (aax, eI g 12 (ax)), (alf, eL g 12 (lf)), (als, eL g 12 (lz))]) [0, 1, 2, 3, 4, 5, 6] (by decide) rfl
    exact (W.widen (k := 0) (n := 0) (Nat.le_of_ble_eq_true rfl) (Nat.le_of_ble_eq_true rfl) (W.lret (v := (0)) hx hb hr (fun t ht hW => ⟨⟨(0), (fs).set 0 (.int (nI (1))), rfl, Or.inl ⟨Or.inl c_2, rfl, rfl⟩, by rw [ht]; exact hP9, hD9.re [h, akd, afi, ase, aax, alf, als] rfl rfl⟩, hS.F ht⟩) hS.2.2 d_M_about_34))
  · rw [if_neg c_2]
    refine lv_if_ne (tgt := 18) hx hb d_M_about_6 (by decide) (fun h => absurd h (by decide)) (fun _ => ?_)
    refine lv_iload_n hx hb d_M_about_9 rfl (lv_at hl 2 rfl) ?_
    refine lv_iconst (v := (nI (0))) hx hb d_M_about_10 (by decide) ?_
    refine lv_iconst (v := (nI (5))) hx hb d_M_about_11 (by decide) ?_
    refine va_calli (va_runS (As := [.int (wv), .int (nI (0)), .int (nI (5))]) (rest := [.ref h]) ⟨hx, hb, hml, hown, htB⟩ (p_M_isIn l g z _ (wv) (nI (0)) (nI (5))) (va_cwS 3 htB (gS kw_509 kw_510 kw_3 g_M_isIn) rfl rfl rfl (by decide +kernel) ⟨by decide, by decide⟩) (pre_S hS hz ha trivial) rfl rfl hl.1 rfl (lv_room (Nat.le_of_ble_eq_true rfl)) d_M_about_12 ⟨by decide, by decide⟩) hS (fun q _ h => h.elim) (fun q h => h.elim) (fun r_6 u t H1 locs ht hvm hw hB hz1 hk1 hS => ?_)
    obtain rfl := hB.symm.trans ht
    subst hw
    by_cases c_7 : outI (wv) (nI (0)) (nI (5))
    · rw [if_pos c_7]
      refine lv_if_ne (tgt := 22) hx hb d_M_about_15 (by decide) (fun h => absurd h (by decide)) (fun _ => ?_)
      refine lv_iconst (v := (nI (1))) hx hb d_M_about_18 (by decide) ?_
      refine lv_goto (tgt := 23) hx hb d_M_about_19 (by decide) ?_
      refine va_put (D := g.1) (ci := 3) (v := .int (nI (1))) (ty := .int) (C := R_M) (T := F_M) (N := 19) hx hb htB in_M t_M t_M_ok n_M hown ha.1 hP hD hS 0 rfl rfl 0 (by decide) (htB _ kw_442) (fun _ h9 => h9) rfl (by decide +kernel) rfl rfl (by rw [hlen]; decide) d_M_about_23 (fun H locs hP hD hS => ?_)
      have hP : va_P g.1 cls [(h, .inr (3, (fs).set 0 (.int (nI (1))))), (akd, eI g 12 (kd)), (afi, eI g 12 (fi)), (ase, eI g 12 (se)), (aax, eI g 12 (ax)), (alf, eL g 12 (lf)), (als, eL g 12 (lz))] H := hP
      have hD : va_D A [(h, .inr (3, (fs).set 0 (.int (nI (1))))), (akd, eI g 12 (kd)), (afi, eI g 12 (fi)), (ase, eI g 12 (se)), (aax, eI g 12 (ax)), (alf, eL g 12 (lf)), (als, eL g 12 (lz))] := hD
      refine lv_aload_n hx hb d_M_about_26 rfl (lv_at hl 0 rfl) ?_
      refine va_get (D := g.1) (ci := 3) (v := .int (nI (1))) (C := R_M) (T := F_M) (N := 19) hx hb htB in_M hown ha.1 hP 0 rfl rfl 0 (by decide) (htB _ kw_442) (fun _ h9 => h9) (gset_eq hlen (by decide)) d_M_about_27 ?_
      refine lv_if_le (tgt := 35) hx hb d_M_about_30 (by decide) (fun h => absurd h (by decide)) (fun _ => ?_)
      refine lv_lconst (v := 0) hx hb d_M_about_33 (by decide) ?_
      have hP9 := hP.sub (ws' := [(h, .inr (3, (fs).set 0 (.int (nI (1))))), (akd, eI g 12 (kd)), (afi, eI g 12 (fi)), (ase, eI g 12 (se)), (aax, eI g 12 (ax)), (alf, eL g 12 (lf)), (als, eL g 12 (lz))]) [0, 1, 2, 3, 4, 5, 6] rfl
      have hD9 := hD.sub (ws' := [(h, .inr (3, (fs).set 0 (.int (nI (1))))), (akd, eI g 12 (kd)), (afi, eI g 12 (fi)), (ase, eI g 12 (se)), (aax, eI g 12 (ax)), (alf, eL g 12 (lf)), (als, eL g 12 (lz))]) [0, 1, 2, 3, 4, 5, 6] (by decide) rfl
      exact (W.widen (k := 0) (n := 0) (Nat.le_of_ble_eq_true rfl) (Nat.le_of_ble_eq_true rfl) (W.lret (v := (0)) hx hb hr (fun t ht hW => ⟨⟨(0), (fs).set 0 (.int (nI (1))), rfl, Or.inl ⟨Or.inr c_7, rfl, rfl⟩, by rw [ht]; exact hP9, hD9.re [h, akd, afi, ase, aax, alf, als] rfl rfl⟩, hS.F ht⟩) hS.2.2 d_M_about_34))
    · rw [if_neg c_7]
      refine lv_if_ne (tgt := 22) hx hb d_M_about_15 (by decide) (fun _ => ?_) (fun h => absurd h (by decide))
      refine lv_iconst (v := (nI (0))) hx hb d_M_about_22 (by decide) ?_
      refine va_put (D := g.1) (ci := 3) (v := .int (nI (0))) (ty := .int) (C := R_M) (T := F_M) (N := 19) hx hb htB in_M t_M t_M_ok n_M hown ha.1 hP hD hS 0 rfl rfl 0 (by decide) (htB _ kw_442) (fun _ h9 => h9) rfl (by decide +kernel) rfl rfl (by rw [hlen]; decide) d_M_about_23 (fun H locs hP hD hS => ?_)
      have hP : va_P g.1 cls [(h, .inr (3, (fs).set 0 (.int (nI (0))))), (akd, eI g 12 (kd)), (afi, eI g 12 (fi)), (ase, eI g 12 (se)), (aax, eI g 12 (ax)), (alf, eL g 12 (lf)), (als, eL g 12 (lz))] H := hP
      have hD : va_D A [(h, .inr (3, (fs).set 0 (.int (nI (0))))), (akd, eI g 12 (kd)), (afi, eI g 12 (fi)), (ase, eI g 12 (se)), (aax, eI g 12 (ax)), (alf, eL g 12 (lf)), (als, eL g 12 (lz))] := hD
      refine lv_aload_n hx hb d_M_about_26 rfl (lv_at hl 0 rfl) ?_
      refine va_get (D := g.1) (ci := 3) (v := .int (nI (0))) (C := R_M) (T := F_M) (N := 19) hx hb htB in_M hown ha.1 hP 0 rfl rfl 0 (by decide) (htB _ kw_442) (fun _ h9 => h9) (gset_eq hlen (by decide)) d_M_about_27 ?_
      refine lv_if_le (tgt := 35) hx hb d_M_about_30 (by decide) (fun _ => ?_) (fun h => absurd h (by decide))
      obtain ⟨q, hq, rfl⟩ := noP_not (by omega) c_2
      obtain ⟨i, hi, rfl⟩ := out_not (n := 5) (by decide) c_7
      rcases (show i = 0 ∨ i = 1 ∨ i = 2 ∨ i = 3 ∨ i = 4 ∨ i = 5 by omega) with rfl | rfl | rfl | rfl | rfl | rfl
      · refine lv_iload_n hx hb d_M_about_35 rfl (lv_at hl 2 rfl) ?_
        refine lv_iconst (v := (nI (3))) hx hb d_M_about_36 (by decide) ?_
        refine jv_icmp_ge (tgt := 77) hx hb (by omega) (by omega) d_M_about_37 (by decide) (fun h => absurd h (by decide)) (fun _ => ?_)
        refine lv_iload_n hx hb d_M_about_40 rfl (lv_at hl 2 rfl) ?_
        refine lv_if_ne (tgt := 54) hx hb d_M_about_41 (by decide) (fun h => absurd h (by decide)) (fun _ => ?_)
        refine lv_aload_n hx hb d_M_about_44 rfl (lv_at hl 0 rfl) ?_
        refine va_get (D := g.1) (ci := 3) (v := .ref akd) (C := R_M) (T := F_M) (N := 19) hx hb htB in_M hown ha.1 hP 0 rfl rfl 12 (by decide) (htB _ kw_454) (fun _ h9 => h9) (gset_ne (by decide) hf12) d_M_about_45 ?_
        refine lv_iload_n hx hb d_M_about_48 rfl (lv_at hl 1 rfl) ?_
        refine ja_ald (k := q) hx hb ha.1 hP 1 0 rfl rfl (by omega) (by omega) d_M_about_49 ?_
        refine lv_i2l (v := ((kd (q))).toInt64) hx hb d_M_about_50 rfl ?_
        refine lv_goto (tgt := 76) hx hb d_M_about_51 (by decide) ?_
        have hP9 := hP.sub (ws' := [(h, .inr (3, (fs).set 0 (.int (nI (0))))), (akd, eI g 12 (kd)), (afi, eI g 12 (fi)), (ase, eI g 12 (se)), (aax, eI g 12 (ax)), (alf, eL g 12 (lf)), (als, eL g 12 (lz))]) [0, 1, 2, 3, 4, 5, 6] rfl
        have hD9 := hD.sub (ws' := [(h, .inr (3, (fs).set 0 (.int (nI (0))))), (akd, eI g 12 (kd)), (afi, eI g 12 (fi)), (ase, eI g 12 (se)), (aax, eI g 12 (ax)), (alf, eL g 12 (lf)), (als, eL g 12 (lz))]) [0, 1, 2, 3, 4, 5, 6] (by decide) rfl
        exact (W.widen (k := 0) (n := 0) (Nat.le_of_ble_eq_true rfl) (Nat.le_of_ble_eq_true rfl) (W.lret (v := (((kd (q))).toInt64)) hx hb hr (fun t ht hW => ⟨⟨(((kd (q))).toInt64), (fs).set 0 (.int (nI (0))), rfl, Or.inr ⟨q, 0, hq, rfl, hi, rfl, rfl, rfl⟩, by rw [ht]; exact hP9, hD9.re [h, akd, afi, ase, aax, alf, als] rfl rfl⟩, hS.F ht⟩) hS.2.2 d_M_about_76))
      · refine lv_iload_n hx hb d_M_about_35 rfl (lv_at hl 2 rfl) ?_
        refine lv_iconst (v := (nI (3))) hx hb d_M_about_36 (by decide) ?_
        refine jv_icmp_ge (tgt := 77) hx hb (by omega) (by omega) d_M_about_37 (by decide) (fun h => absurd h (by decide)) (fun _ => ?_)
        refine lv_iload_n hx hb d_M_about_40 rfl (lv_at hl 2 rfl) ?_
        refine lv_if_ne (tgt := 54) hx hb d_M_about_41 (by decide) (fun _ => ?_) (fun h => absurd h (by decide))
        refine lv_iload_n hx hb d_M_about_54 rfl (lv_at hl 2 rfl) ?_
        refine lv_iconst (v := (nI (1))) hx hb d_M_about_55 (by decide) ?_
        refine jv_icmp_ne (tgt := 69) hx hb (by omega) (by omega) d_M_about_56 (by decide) (fun h => absurd h (by decide)) (fun _ => ?_)
        refine lv_aload_n hx hb d_M_about_59 rfl (lv_at hl 0 rfl) ?_
        refine va_get (D := g.1) (ci := 3) (v := .ref afi) (C := R_M) (T := F_M) (N := 19) hx hb htB in_M hown ha.1 hP 0 rfl rfl 13 (by decide) (htB _ kw_455) (fun _ h9 => h9) (gset_ne (by decide) hf13) d_M_about_60 ?_
        refine lv_iload_n hx hb d_M_about_63 rfl (lv_at hl 1 rfl) ?_
        refine ja_ald (k := q) hx hb ha.1 hP 2 0 rfl rfl (by omega) (by omega) d_M_about_64 ?_
        refine lv_i2l (v := ((fi (q))).toInt64) hx hb d_M_about_65 rfl ?_
        refine lv_goto (tgt := 76) hx hb d_M_about_66 (by decide) ?_
        have hP9 := hP.sub (ws' := [(h, .inr (3, (fs).set 0 (.int (nI (0))))), (akd, eI g 12 (kd)), (afi, eI g 12 (fi)), (ase, eI g 12 (se)), (aax, eI g 12 (ax)), (alf, eL g 12 (lf)), (als, eL g 12 (lz))]) [0, 1, 2, 3, 4, 5, 6] rfl
        have hD9 := hD.sub (ws' := [(h, .inr (3, (fs).set 0 (.int (nI (0))))), (akd, eI g 12 (kd)), (afi, eI g 12 (fi)), (ase, eI g 12 (se)), (aax, eI g 12 (ax)), (alf, eL g 12 (lf)), (als, eL g 12 (lz))]) [0, 1, 2, 3, 4, 5, 6] (by decide) rfl
        exact (W.widen (k := 0) (n := 0) (Nat.le_of_ble_eq_true rfl) (Nat.le_of_ble_eq_true rfl) (W.lret (v := (((fi (q))).toInt64)) hx hb hr (fun t ht hW => ⟨⟨(((fi (q))).toInt64), (fs).set 0 (.int (nI (0))), rfl, Or.inr ⟨q, 1, hq, rfl, hi, rfl, rfl, rfl⟩, by rw [ht]; exact hP9, hD9.re [h, akd, afi, ase, aax, alf, als] rfl rfl⟩, hS.F ht⟩) hS.2.2 d_M_about_76))
      · refine lv_iload_n hx hb d_M_about_35 rfl (lv_at hl 2 rfl) ?_
        refine lv_iconst (v := (nI (3))) hx hb d_M_about_36 (by decide) ?_
        refine jv_icmp_ge (tgt := 77) hx hb (by omega) (by omega) d_M_about_37 (by decide) (fun h => absurd h (by decide)) (fun _ => ?_)
        refine lv_iload_n hx hb d_M_about_40 rfl (lv_at hl 2 rfl) ?_
        refine lv_if_ne (tgt := 54) hx hb d_M_about_41 (by decide) (fun _ => ?_) (fun h => absurd h (by decide))
        refine lv_iload_n hx hb d_M_about_54 rfl (lv_at hl 2 rfl) ?_
        refine lv_iconst (v := (nI (1))) hx hb d_M_about_55 (by decide) ?_
        refine jv_icmp_ne (tgt := 69) hx hb (by omega) (by omega) d_M_about_56 (by decide) (fun _ => ?_) (fun h => absurd h (by decide))
        refine lv_aload_n hx hb d_M_about_69 rfl (lv_at hl 0 rfl) ?_
        refine va_get (D := g.1) (ci := 3) (v := .ref ase) (C := R_M) (T := F_M) (N := 19) hx hb htB in_M hown ha.1 hP 0 rfl rfl 14 (by decide) (htB _ kw_456) (fun _ h9 => h9) (gset_ne (by decide) hf14) d_M_about_70 ?_
        refine lv_iload_n hx hb d_M_about_73 rfl (lv_at hl 1 rfl) ?_
        refine ja_ald (k := q) hx hb ha.1 hP 3 0 rfl rfl (by omega) (by omega) d_M_about_74 ?_
        refine lv_i2l (v := ((se (q))).toInt64) hx hb d_M_about_75 rfl ?_
        have hP9 := hP.sub (ws' := [(h, .inr (3, (fs).set 0 (.int (nI (0))))), (akd, eI g 12 (kd)), (afi, eI g 12 (fi)), (ase, eI g 12 (se)), (aax, eI g 12 (ax)), (alf, eL g 12 (lf)), (als, eL g 12 (lz))]) [0, 1, 2, 3, 4, 5, 6] rfl
        have hD9 := hD.sub (ws' := [(h, .inr (3, (fs).set 0 (.int (nI (0))))), (akd, eI g 12 (kd)), (afi, eI g 12 (fi)), (ase, eI g 12 (se)), (aax, eI g 12 (ax)), (alf, eL g 12 (lf)), (als, eL g 12 (lz))]) [0, 1, 2, 3, 4, 5, 6] (by decide) rfl
        exact (W.widen (k := 0) (n := 0) (Nat.le_of_ble_eq_true rfl) (Nat.le_of_ble_eq_true rfl) (W.lret (v := (((se (q))).toInt64)) hx hb hr (fun t ht hW => ⟨⟨(((se (q))).toInt64), (fs).set 0 (.int (nI (0))), rfl, Or.inr ⟨q, 2, hq, rfl, hi, rfl, rfl, rfl⟩, by rw [ht]; exact hP9, hD9.re [h, akd, afi, ase, aax, alf, als] rfl rfl⟩, hS.F ht⟩) hS.2.2 d_M_about_76))
      · refine lv_iload_n hx hb d_M_about_35 rfl (lv_at hl 2 rfl) ?_
        refine lv_iconst (v := (nI (3))) hx hb d_M_about_36 (by decide) ?_
        refine jv_icmp_ge (tgt := 77) hx hb (by omega) (by omega) d_M_about_37 (by decide) (fun _ => ?_) (fun h => absurd h (by decide))
        refine lv_iload_n hx hb d_M_about_77 rfl (lv_at hl 2 rfl) ?_
        refine lv_iconst (v := (nI (3))) hx hb d_M_about_78 (by decide) ?_
        refine jv_icmp_ne (tgt := 92) hx hb (by omega) (by omega) d_M_about_79 (by decide) (fun h => absurd h (by decide)) (fun _ => ?_)
        refine lv_aload_n hx hb d_M_about_82 rfl (lv_at hl 0 rfl) ?_
        refine va_get (D := g.1) (ci := 3) (v := .ref aax) (C := R_M) (T := F_M) (N := 19) hx hb htB in_M hown ha.1 hP 0 rfl rfl 15 (by decide) (htB _ kw_457) (fun _ h9 => h9) (gset_ne (by decide) hf15) d_M_about_83 ?_
        refine lv_iload_n hx hb d_M_about_86 rfl (lv_at hl 1 rfl) ?_
        refine ja_ald (k := q) hx hb ha.1 hP 4 0 rfl rfl (by omega) (by omega) d_M_about_87 ?_
        refine lv_i2l (v := ((ax (q))).toInt64) hx hb d_M_about_88 rfl ?_
        refine lv_goto (tgt := 112) hx hb d_M_about_89 (by decide) ?_
        have hP9 := hP.sub (ws' := [(h, .inr (3, (fs).set 0 (.int (nI (0))))), (akd, eI g 12 (kd)), (afi, eI g 12 (fi)), (ase, eI g 12 (se)), (aax, eI g 12 (ax)), (alf, eL g 12 (lf)), (als, eL g 12 (lz))]) [0, 1, 2, 3, 4, 5, 6] rfl
        have hD9 := hD.sub (ws' := [(h, .inr (3, (fs).set 0 (.int (nI (0))))), (akd, eI g 12 (kd)), (afi, eI g 12 (fi)), (ase, eI g 12 (se)), (aax, eI g 12 (ax)), (alf, eL g 12 (lf)), (als, eL g 12 (lz))]) [0, 1, 2, 3, 4, 5, 6] (by decide) rfl
        exact (W.widen (k := 0) (n := 0) (Nat.le_of_ble_eq_true rfl) (Nat.le_of_ble_eq_true rfl) (W.lret (v := (((ax (q))).toInt64)) hx hb hr (fun t ht hW => ⟨⟨(((ax (q))).toInt64), (fs).set 0 (.int (nI (0))), rfl, Or.inr ⟨q, 3, hq, rfl, hi, rfl, rfl, rfl⟩, by rw [ht]; exact hP9, hD9.re [h, akd, afi, ase, aax, alf, als] rfl rfl⟩, hS.F ht⟩) hS.2.2 d_M_about_112))
      · refine lv_iload_n hx hb d_M_about_35 rfl (lv_at hl 2 rfl) ?_
        refine lv_iconst (v := (nI (3))) hx hb d_M_about_36 (by decide) ?_
        refine jv_icmp_ge (tgt := 77) hx hb (by omega) (by omega) d_M_about_37 (by decide) (fun _ => ?_) (fun h => absurd h (by decide))
        refine lv_iload_n hx hb d_M_about_77 rfl (lv_at hl 2 rfl) ?_
        refine lv_iconst (v := (nI (3))) hx hb d_M_about_78 (by decide) ?_
        refine jv_icmp_ne (tgt := 92) hx hb (by omega) (by omega) d_M_about_79 (by decide) (fun _ => ?_) (fun h => absurd h (by decide))
        refine lv_iload_n hx hb d_M_about_92 rfl (lv_at hl 2 rfl) ?_
        refine lv_iconst (v := (nI (4))) hx hb d_M_about_93 (by decide) ?_
        refine jv_icmp_ne (tgt := 106) hx hb (by omega) (by omega) d_M_about_94 (by decide) (fun h => absurd h (by decide)) (fun _ => ?_)
        refine lv_aload_n hx hb d_M_about_97 rfl (lv_at hl 0 rfl) ?_
        refine va_get (D := g.1) (ci := 3) (v := .ref alf) (C := R_M) (T := F_M) (N := 19) hx hb htB in_M hown ha.1 hP 0 rfl rfl 16 (by decide) (htB _ kw_458) (fun _ h9 => h9) (gset_ne (by decide) hf16) d_M_about_98 ?_
        refine lv_iload_n hx hb d_M_about_101 rfl (lv_at hl 1 rfl) ?_
        refine ja_lald (k := q) hx hb ha.1 hP 5 1 rfl rfl (by omega) (by omega) d_M_about_102 ?_
        refine lv_goto (tgt := 112) hx hb d_M_about_103 (by decide) ?_
        have hP9 := hP.sub (ws' := [(h, .inr (3, (fs).set 0 (.int (nI (0))))), (akd, eI g 12 (kd)), (afi, eI g 12 (fi)), (ase, eI g 12 (se)), (aax, eI g 12 (ax)), (alf, eL g 12 (lf)), (als, eL g 12 (lz))]) [0, 1, 2, 3, 4, 5, 6] rfl
        have hD9 := hD.sub (ws' := [(h, .inr (3, (fs).set 0 (.int (nI (0))))), (akd, eI g 12 (kd)), (afi, eI g 12 (fi)), (ase, eI g 12 (se)), (aax, eI g 12 (ax)), (alf, eL g 12 (lf)), (als, eL g 12 (lz))]) [0, 1, 2, 3, 4, 5, 6] (by decide) rfl
        exact (W.widen (k := 0) (n := 0) (Nat.le_of_ble_eq_true rfl) (Nat.le_of_ble_eq_true rfl) (W.lret (v := (lf (q))) hx hb hr (fun t ht hW => ⟨⟨(lf (q)), (fs).set 0 (.int (nI (0))), rfl, Or.inr ⟨q, 4, hq, rfl, hi, rfl, rfl, rfl⟩, by rw [ht]; exact hP9, hD9.re [h, akd, afi, ase, aax, alf, als] rfl rfl⟩, hS.F ht⟩) hS.2.2 d_M_about_112))
      · refine lv_iload_n hx hb d_M_about_35 rfl (lv_at hl 2 rfl) ?_
        refine lv_iconst (v := (nI (3))) hx hb d_M_about_36 (by decide) ?_
        refine jv_icmp_ge (tgt := 77) hx hb (by omega) (by omega) d_M_about_37 (by decide) (fun _ => ?_) (fun h => absurd h (by decide))
        refine lv_iload_n hx hb d_M_about_77 rfl (lv_at hl 2 rfl) ?_
        refine lv_iconst (v := (nI (3))) hx hb d_M_about_78 (by decide) ?_
        refine jv_icmp_ne (tgt := 92) hx hb (by omega) (by omega) d_M_about_79 (by decide) (fun _ => ?_) (fun h => absurd h (by decide))
        refine lv_iload_n hx hb d_M_about_92 rfl (lv_at hl 2 rfl) ?_
        refine lv_iconst (v := (nI (4))) hx hb d_M_about_93 (by decide) ?_
        refine jv_icmp_ne (tgt := 106) hx hb (by omega) (by omega) d_M_about_94 (by decide) (fun _ => ?_) (fun h => absurd h (by decide))
        refine lv_aload_n hx hb d_M_about_106 rfl (lv_at hl 0 rfl) ?_
        refine va_get (D := g.1) (ci := 3) (v := .ref als) (C := R_M) (T := F_M) (N := 19) hx hb htB in_M hown ha.1 hP 0 rfl rfl 17 (by decide) (htB _ kw_459) (fun _ h9 => h9) (gset_ne (by decide) hf17) d_M_about_107 ?_
        refine lv_iload_n hx hb d_M_about_110 rfl (lv_at hl 1 rfl) ?_
        refine ja_lald (k := q) hx hb ha.1 hP 6 1 rfl rfl (by omega) (by omega) d_M_about_111 ?_
        have hP9 := hP.sub (ws' := [(h, .inr (3, (fs).set 0 (.int (nI (0))))), (akd, eI g 12 (kd)), (afi, eI g 12 (fi)), (ase, eI g 12 (se)), (aax, eI g 12 (ax)), (alf, eL g 12 (lf)), (als, eL g 12 (lz))]) [0, 1, 2, 3, 4, 5, 6] rfl
        have hD9 := hD.sub (ws' := [(h, .inr (3, (fs).set 0 (.int (nI (0))))), (akd, eI g 12 (kd)), (afi, eI g 12 (fi)), (ase, eI g 12 (se)), (aax, eI g 12 (ax)), (alf, eL g 12 (lf)), (als, eL g 12 (lz))]) [0, 1, 2, 3, 4, 5, 6] (by decide) rfl
        exact (W.widen (k := 0) (n := 0) (Nat.le_of_ble_eq_true rfl) (Nat.le_of_ble_eq_true rfl) (W.lret (v := (lz (q))) hx hb hr (fun t ht hW => ⟨⟨(lz (q)), (fs).set 0 (.int (nI (0))), rfl, Or.inr ⟨q, 5, hq, rfl, hi, rfl, rfl, rfl⟩, by rw [ht]; exact hP9, hD9.re [h, akd, afi, ase, aax, alf, als] rfl rfl⟩, hS.F ht⟩) hS.2.2 d_M_about_112))
